/-! the start: what the law's words and the claim's premises give -/
def zFlat : List Cond := flatC (Jvm.Cond.and given_1 narrow_1)
def zwI (i : Nat) : Nat := ([542, 551, 559, 569, 577, 586, 595, 606, 614, 622] : List Nat).getD i 0
def ztI (i : Nat) : Nat := ([112, 130, 158, 175, 206, 225, 258, 278, 294, 331, 350, 373, 391, 429, 443, 470, 491, 520, 630, 658, 678, 706, 727, 754] : List Nat).getD i 0
def znI (i : Nat) : Nat := ([20, 34, 62, 75, 48, 35, 63, 76, 50, 22, 64, 78, 49, 21, 36, 77, 52, 24, 38, 65] : List Nat).getD i 0
def zwT (i : Nat) : Term := .string zWp (zWi i)
theorem zf_ex : ∀ i, i < 10 → zFlat[zwI i]? = some (.exactly (zwT i) "java/lang/String") := by decide +kernel
theorem zf_co : ∀ i, i < 10 → zFlat[zwI i + 1]? = some (.eq (.field (zwT i) "java/lang/String" "coder" "B") (.int 0)) := by decide +kernel
theorem zf_ar : ∀ i, i < 10 → zFlat[zwI i + 2]? = some (.arrayOf (.field (zwT i) "java/lang/String" "value" "[B") .byte) := by decide +kernel
theorem zf_le : ∀ i, i < 10 → zFlat[zwI i + 3]? = some (.eq (.length (.field (zwT i) "java/lang/String" "value" "[B")) (.int (Int32.ofNat (zWl.getD i 0)))) := by decide +kernel
theorem zf_el : ∀ i, i < 10 → ∀ j, j < zWl.getD i 0 → zFlat[zwI i + 4 + j]? = some (.eq (.elem (.field (zwT i) "java/lang/String" "value" "[B") (.int (Int32.ofNat j))) (.int ((zWb.getD i []).getD j 0))) := by decide +kernel
theorem zf_tx : ∀ i, i < 24 → zFlat[ztI i]? = some (.exactly (.string "PrefixCodeIndex" (zTexts.getD i (0, "")).1) "java/lang/String") := by decide +kernel
theorem zf_nc : ∀ i, i < 20 → zFlat[znI i]? = some (.not (.castable (zNcL.getD i ("", "")).1 (zNcL.getD i ("", "")).2)) := by decide +kernel
theorem zw_ap : ∀ i, i < 10 → ∀ j, j < 10 → zWl.getD i 0 = zWl.getD j 0 → (∀ q, q < zWl.getD i 0 → (zWb.getD i []).getD q 0 = (zWb.getD j []).getD q 0) → i = j := by decide +kernel
theorem zw_31 : ∀ i, i < 10 → zWl.getD i 0 < 2 ^ 31 := by decide +kernel
theorem zf_s1 : zFlat[4]? = some (.isRef (.static "java/lang/Throwable" "UNASSIGNED_STACK" "[Ljava/lang/StackTraceElement;")) := by decide +kernel
theorem zf_s2 : zFlat[5]? = some (.isRef (.static "java/lang/Throwable" "SUPPRESSED_SENTINEL" "Ljava/util/List;")) := by decide +kernel
theorem zf_s3 : zFlat[6]? = some (.eq (.static "java/lang/String" "COMPACT_STRINGS" "Z") (.int 1)) := by decide +kernel
theorem zf_s4 : zFlat[7]? = some (.isRef (.static "jdk/internal/util/Preconditions" "SIOOBE_FORMATTER" "Ljava/util/function/BiFunction;")) := by decide +kernel
theorem zInst : ∀ (ci : Nat) (q : vw_C), zCl[ci]? = some q → Cond.instantiable q.1 q.2.2 ∈ lw_tbl := by
  intro ci q h
  match ci, h with
  | 0, h => cases h; exact (zt1 (i := 35) rfl)
  | 1, h => cases h; exact (zt1 (i := 42) rfl)
  | 2, h => cases h; exact (zt1 (i := 122) rfl)
  | 3, h => cases h; exact (zt1 (i := 214) rfl)
  | 4, h => cases h; exact (zt1 (i := 174) rfl)
  | 5, h => cases h; exact (zt1 (i := 155) rfl)
  | 6, h => cases h; exact (zt1 (i := 142) rfl)
  | 7, h => cases h; exact (zt1 (i := 27) rfl)
  | 8, h => cases h; exact (zt6 (i := 37) rfl)
  | k + 9, h => simp [zCl] at h
theorem zOdd_nw {w : Cond} {A : Array Value} {s : State} (h : zOdd w = true) (hw : w.before A s = true) : va_Nw w s := by
  unfold zOdd at h
  split at h
  · exact va_Nw.of rfl hw
  · exact va_Nw.of rfl hw
  · exact va_Nw.of rfl hw
  · exact va_AO.of hw
  · cases h
theorem zw_ref : ∀ i, i < 10 → Cond.stringRef zWp (zWi i) (zWt i) ∈ lw_tbl := by
  intro i hi
  match i, hi with
  | 0, _ => exact (zt5 (i := 131) rfl)
  | 1, _ => exact (zt5 (i := 132) rfl)
  | 2, _ => exact (zt5 (i := 133) rfl)
  | 3, _ => exact (zt5 (i := 134) rfl)
  | 4, _ => exact (zt5 (i := 135) rfl)
  | 5, _ => exact (zt5 (i := 136) rfl)
  | 6, _ => exact (zt5 (i := 137) rfl)
  | 7, _ => exact (zt5 (i := 138) rfl)
  | 8, _ => exact (zt5 (i := 139) rfl)
  | 9, _ => exact (zt5 (i := 140) rfl)
  | k + 10, hi => exact absurd hi (by omega)
theorem zt_ref : ∀ i, i < 24 → Cond.stringRef "PrefixCodeIndex" (zTexts.getD i (0, "")).1 (zTexts.getD i (0, "")).2 ∈ lw_tbl := by
  intro i hi
  match i, hi with
  | 0, _ => exact (zt2 (i := 119) rfl)
  | 1, _ => exact (zt2 (i := 203) rfl)
  | 2, _ => exact (zt3 (i := 5) rfl)
  | 3, _ => exact (zt3 (i := 160) rfl)
  | 4, _ => exact (zt3 (i := 170) rfl)
  | 5, _ => exact (zt3 (i := 186) rfl)
  | 6, _ => exact (zt4 (i := 50) rfl)
  | 7, _ => exact (zt4 (i := 152) rfl)
  | 8, _ => exact (zt4 (i := 176) rfl)
  | 9, _ => exact (zt4 (i := 208) rfl)
  | 10, _ => exact (zt4 (i := 220) rfl)
  | 11, _ => exact (zt4 (i := 236) rfl)
  | 12, _ => exact (zt5 (i := 12) rfl)
  | 13, _ => exact (zt5 (i := 35) rfl)
  | 14, _ => exact (zt5 (i := 44) rfl)
  | 15, _ => exact (zt5 (i := 95) rfl)
  | 16, _ => exact (zt5 (i := 103) rfl)
  | 17, _ => exact (zt5 (i := 104) rfl)
  | 18, _ => exact (zt5 (i := 226) rfl)
  | 19, _ => exact (zt5 (i := 235) rfl)
  | 20, _ => exact (zt6 (i := 3) rfl)
  | 21, _ => exact (zt6 (i := 11) rfl)
  | 22, _ => exact (zt6 (i := 19) rfl)
  | 23, _ => exact (zt6 (i := 31) rfl)
  | k + 24, hi => exact absurd hi (by omega)
theorem sL_words {s : State} {A : Array Value} (hg : ∀ (i : Nat) (w : Cond), zFlat[i]? = some w → w.before A s = true) {F : Nat → Prop} (hA : ∀ a : Nat, a < s.heap.size → ¬ F a) : ∃ adK adV : Nat → Nat, vk_S 10 zWl zWb adK adV F s s.heap ∧ ∀ i : Nat, i < 10 → (zwT i).eval A s none [] s = some (.ref (adK i)) := by
  have h0 : ∀ i : Nat, ∃ q : Nat × Nat, i < 10 → (zwT i).eval A s none [] s = some (.ref q.1) ∧ va_O "java/lang/String" q.1 F s s.heap ∧ va_OF "java/lang/String" "coder" "B" (.int 0) q.1 F s s.heap ∧ va_OF "java/lang/String" "value" "[B" (.ref q.2) q.1 F s s.heap ∧ va_T .byte q.2 (zWl.getD i 0) (fun j => .int ((zWb.getD i []).getD j 0)) F s s.heap := by
    intro i
    by_cases hi : i < 10
    · obtain ⟨a, c, cA, kA, q1, q2, q3, q4, q5, q6, -⟩ := Cond.exactly_spec (args := A) (first := s) (o := none) (s := s) (idx := []) (t := zwT i) (cls := "java/lang/String") (hg _ _ (zf_ex i hi))
      obtain ⟨t, ht, hT⟩ := va_Tof (f := fun j => .int ((zWb.getD i []).getD j 0)) (A := F) (zw_31 i hi) (hg _ _ (zf_ar i hi)) (va_eqt (hg _ _ (zf_le i hi))) (fun j hj => va_eqt (hg _ _ (zf_el i hi j hj))) hA
      exact ⟨(a, t), fun _ => ⟨q1, ⟨cA, q3, q5, by rw [q6]; exact q2, hA a (Array.getElem?_eq_some_iff.mp q3).1⟩, vk_OFof q1 (va_eqt (hg _ _ (zf_co i hi))) hA, vk_OFof q1 ht hA, hT⟩⟩
    · exact ⟨(0, 0), fun h => absurd h hi⟩
  obtain ⟨ad, had⟩ := Classical.axiomOfChoice h0
  refine ⟨fun i => (ad i).1, fun i => (ad i).2, ⟨fun i hi => (had i hi).2, fun i j hi hj e => ?_⟩, fun i hi => (had i hi).1⟩
  have e9 : (ad i).1 = (ad j).1 := e
  obtain ⟨-, -, -, v1, t1⟩ := had i hi
  obtain ⟨-, -, -, v2, t2⟩ := had j hj
  rw [← e9] at v2
  obtain ⟨cf, k, fi, f, cell, a1, a2, a3, a4, a5, a6⟩ := v1
  obtain ⟨cf2, k2, fi2, f2, cell2, b1, b2, b3, b4, b5, b6⟩ := v2
  have e1 := a1.symm.trans b1
  cases e1
  cases Option.some.inj (a3.symm.trans b3)
  have e2 := Value.ref.inj (Option.some.inj (a5.symm.trans b5))
  rw [← e2] at t2
  obtain ⟨c1, c2, c3, c4, c5, c6, c7, c8⟩ := t1
  obtain ⟨d1, d2, d3, d4, d5, d6, d7, d8⟩ := t2
  cases Option.some.inj (c2.symm.trans d2)
  have e3 : zWl.getD i 0 = zWl.getD j 0 := (nI_eq (zw_31 i hi) (zw_31 j hj)).mp (c6.symm.trans d6)
  refine zw_ap i hi j hj e3 (fun q hq => ?_)
  exact Value.int.inj (Option.some.inj ((c7 q hq).symm.trans (d7 q (by omega))))
theorem sL_env {s : State} {A : Array Value} {b L : Nat} {xs : Nat → Int32} (hts : ∀ w ∈ lw_tbl, w.before A s = true) (hgv : (Jvm.Cond.and given_1 narrow_1).before A s = true) (hX : va_X b L xs s s.heap) (hbl : b < s.heap.size) : ∃ Γ : zG, zgB Γ = s.heap.size ∧ zgS Γ = b ∧ zgL Γ = L ∧ zEnv Γ s := by
  have hfl := flat_of_before _ hgv
  have hg : ∀ (i : Nat) (w : Cond), zFlat[i]? = some w → w.before A s = true := fun i w h => hfl w (List.mem_of_getElem? h)
  have hA : ∀ a : Nat, a < s.heap.size → ¬ s.heap.size ≤ a := fun a h1 h2 => by omega
  have h0 : ∀ ci : Nat, ∃ p : ClassId × (Nat → Nat), ∀ q : vw_C, zCl[ci]? = some q → u_Kn s q.1 q.2.1 q.2.2 p.1 p.2 := by
    intro ci
    cases hq : zCl[ci]? with
    | none => exact ⟨(0, fun _ => 0), fun q h => by cases h⟩
    | some q =>
      obtain ⟨ty, hf⟩ := zClOK ci q hq
      obtain ⟨cC, iS, hk⟩ := u_known (C := q.1) (T := q.2.1) (N := q.2.2) (n := q.2.2) hts hf.1 (hts _ (zInst ci q hq))
      exact ⟨(cC, iS), fun q2 h => by cases h; exact hk⟩
  obtain ⟨ad, had⟩ := Classical.axiomOfChoice h0
  have h1 : ∀ k : Nat, ∃ cA : ClassId, k < 6 → ArrOfT s cA (zTy k) ∧ va_RA s cA (zTy k) := by
    intro k
    match k with
    | 0 =>
      obtain ⟨c, kA, comp, e1, e2, e3⟩ := Cond.arrayClass_spec (hts (.arrayClass .int) (zt1 (i := 84) rfl))
      exact ⟨c, fun _ => ⟨fun n z => ⟨fun k h => (by cases h), kA, e2, comp, e3⟩, e1⟩⟩
    | 1 =>
      obtain ⟨c, kA, comp, e1, e2, e3⟩ := Cond.arrayClass_spec (hts (.arrayClass .char) (zt1 (i := 212) rfl))
      exact ⟨c, fun _ => ⟨fun n z => ⟨fun k h => (by cases h), kA, e2, comp, e3⟩, e1⟩⟩
    | 4 =>
      obtain ⟨c, kA, comp, e1, e2, e3⟩ := Cond.arrayClass_spec (hts (.arrayClass .long) (zt8 (i := 43) rfl))
      exact ⟨c, fun _ => ⟨fun n z => ⟨fun k h => (by cases h), kA, e2, comp, e3⟩, e1⟩⟩
    | 5 =>
      obtain ⟨c, kA, comp, e1, e2, e3⟩ := Cond.arrayClass_spec (hts (.arrayClass .double) (zt8 (i := 44) rfl))
      exact ⟨c, fun _ => ⟨fun n z => ⟨fun k h => (by cases h), kA, e2, comp, e3⟩, e1⟩⟩
    | 2 =>
      obtain ⟨comp, c, kA, e1, e2, e3, e4, e5⟩ := Cond.arrayOver_spec (hts (.arrayOver (.object "PrefixCodeIndex$Entry")) (zt1 (i := 41) rfl))
      exact ⟨c, fun _ => ⟨fun n z => ⟨fun k h => (by cases h), kA, e3, comp, e4⟩, kA, comp, e3, e4, e1, e5⟩⟩
    | 3 =>
      obtain ⟨comp, c, kA, e1, e2, e3, e4, e5⟩ := Cond.arrayOver_spec (hts (.arrayOver (.object "PrefixCodeIndex$Contents")) (zt1 (i := 128) rfl))
      exact ⟨c, fun _ => ⟨fun n z => ⟨fun k h => (by cases h), kA, e3, comp, e4⟩, kA, comp, e3, e4, e1, e5⟩⟩
    | k + 6 => exact ⟨0, fun h => absurd h (by omega)⟩
  obtain ⟨ac, hac⟩ := Classical.axiomOfChoice h1
  obtain ⟨adK, adV, hK, hV⟩ := sL_words hg (F := fun q => s.heap.size ≤ q) hA
  refine ⟨(s.heap.size, (fun k => (ad k).1, fun k => (ad k).2), ac, (adK, adV), (b, L, xs)), rfl, rfl, rfl, ⟨fun c q h => had c q h, fun k q h => ?_⟩, fun w hw ho => zOdd_nw ho (hts w hw), fun t ht => ?_, vx_Zqof (hts _ (zt2 (i := 102) rfl)) (hts _ (zt1 (i := 12) rfl)) (hg _ _ zf_s1) hA, vx_Zqof (hts _ (zt2 (i := 104) rfl)) (hts _ (zt1 (i := 12) rfl)) (hg _ _ zf_s2) hA, fun q hq => ?_, ⟨fun i hi => vk_R.of (hts _ (zw_ref i hi)) (hV i hi), hK, va_Zof (hts _ (zt5 (i := 154) rfl)) (hts _ (zt1 (i := 20) rfl)) (va_eqt (hg _ _ zf_s3)) hA, va_Zqof (hts _ (zt5 (i := 170) rfl)) (hts _ (zt1 (i := 24) rfl)) (hg _ _ zf_s4) hA⟩, hX, hbl, hbl⟩
  · match k, h with
    | 0, h => cases h; exact hac 0 (by decide)
    | 1, h => cases h; exact hac 1 (by decide)
    | 2, h => cases h; exact hac 2 (by decide)
    | 3, h => cases h; exact hac 3 (by decide)
    | 4, h => cases h; exact hac 4 (by decide)
    | 5, h => cases h; exact hac 5 (by decide)
    | k + 6, h => simp [zTys] at h
  · obtain ⟨i, hi⟩ := List.getElem?_of_mem ht
    have hi2 : i < 24 := (List.getElem?_eq_some_iff.mp hi).1
    have e : zTexts.getD i (0, "") = t := by rw [List.getD_eq_getElem?_getD, hi]; rfl
    have r1 := zt_ref i hi2
    have r2 := zf_tx i hi2
    rw [e] at r1 r2
    obtain ⟨a, c, cA, kA, q1, -⟩ := Cond.exactly_spec (args := A) (first := s) (o := none) (s := s) (idx := []) (hg _ _ r2)
    exact ⟨a, vk_R.of (hts _ r1) q1⟩
  · obtain ⟨i, hi⟩ := List.getElem?_of_mem hq
    have hi2 : i < 20 := (List.getElem?_eq_some_iff.mp hi).1
    have e : zNcL.getD i ("", "") = q := by rw [List.getD_eq_getElem?_getD, hi]; rfl
    have r2 := zf_nc i hi2
    rw [e] at r2
    exact va_Nc.of (hg _ _ r2)

