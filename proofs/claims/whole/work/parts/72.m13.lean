/-! the model: what is kept for undo; the changes that are asked for -/
def zPs (U : Nat → Nat) (P : Nat → Nat → Nat) (c : Nat) : Prop := ∀ k, k < c → ∀ j, j < 246 → U (246 * k + j) = P k j
theorem lp_M_starts {Γ : zG} {l : Launch} (hl : l.stackTraces = false) {d : Nat} {h : zH} {n a : Nat} {g : Nat → Nat} {s3 s5 s6 s7 s8 s10 s12 s16 s17 s18 s19 s20 : Int32} {A : Nat → Nat} : ∀ i j, i + j = 246 → Z Γ l mM_starts d 0 0 (zFin Γ (zR none (z2 (zu h (a + 2) (zAr 0 246 g)) a (zAr 0 246 (g)) (zMo a s3 s5 s6 s7 s8 s10 s12 s16 s17 s18 s19 s20)) n) 0 0) 7 [some (.ref a), some (.int (nI j))] [] (z2 (zu h (a + 2) (zAr 0 246 (fun q => if q < j then g q else A q))) a (zAr 0 246 (g)) (zMo a s3 s5 s6 s7 s8 s10 s12 s16 s17 s18 s19 s20)) n 0 0 := by
  intro i
  induction i with
  | zero =>
    intro j hj
    obtain rfl : j = 246 := by omega
    refine zs_iload_n (pc := 7) dM_starts_7 rfl ?_
    refine zs_sipush (pc := 8) dM_starts_8 (zi_s 246 (by decide)) ?_
    refine zn_icmp_ge (pc := 11) 32 dM_starts_11 rfl (by omega) (by omega) (fun _ => ?_) (fun h9 => absurd h9 (by omega))
    refine zs_extn (a := a + 2) g (by rw [z2_n (by omega) (by omega)]; exact zu_s) (fun q hq => if_pos hq) ?_
    rw [z2_q2, zu_zu]
    exact zs_vret (pc := 32) dM_starts_32 rfl (by omega) (by omega) (⟨rfl, rfl, rfl⟩)
  | succ i ih =>
    intro j hj
    have hz := ih (j + 1) (by omega)
    have e : zup (fun q => if q < j then g q else A q) j (g j) = (fun q => if q < j + 1 then g q else A q) := by
      funext q
      unfold zup
      show (if q = j then g j else if q < j then g q else A q) = if q < j + 1 then g q else A q
      by_cases e1 : q = j
      · subst e1
        rw [if_pos rfl, if_pos (by omega)]
      · (repeat' split) <;> first | rfl | (exfalso; omega) | (congr 1; omega) | omega
    refine zs_iload_n (pc := 7) dM_starts_7 rfl ?_
    refine zs_sipush (pc := 8) dM_starts_8 (zi_s 246 (by decide)) ?_
    refine zn_icmp_ge (pc := 11) 32 dM_starts_11 rfl (by omega) (by omega) (fun h9 => absurd h9 (by omega)) (fun _ => ?_)
    refine zs_aload_n (pc := 14) dM_starts_14 rfl ?_
    refine zs_get (pc := 15) dM_starts_15 fM_13 (by first | exact z2_a | exact z2_1 | (rw [z2_n (by omega) (by omega)]; exact zu_s) | (rw [z2_n (by omega) (by omega), zu_n (by omega)]; exact hA) | (rw [z2_n (by omega) (by omega)]; exact hA) | (rw [z2_n (by omega) (by omega)]; exact hU)) (by rfl) ?_
    refine zs_iload_n (pc := 18) dM_starts_18 rfl ?_
    refine zs_aload_n (pc := 19) dM_starts_19 rfl ?_
    refine zs_get (pc := 20) dM_starts_20 fM_9 (by first | exact z2_a | exact z2_1 | (rw [z2_n (by omega) (by omega)]; exact zu_s) | (rw [z2_n (by omega) (by omega), zu_n (by omega)]; exact hA) | (rw [z2_n (by omega) (by omega)]; exact hA) | (rw [z2_n (by omega) (by omega)]; exact hU)) (by rfl) ?_
    refine zs_iload_n (pc := 23) dM_starts_23 rfl ?_
    refine zn_iald (pc := 24) dM_starts_24 (by first | exact z2_a | exact z2_1 | (rw [z2_n (by omega) (by omega)]; exact zu_s) | (rw [z2_n (by omega) (by omega), zu_n (by omega)]; exact hA) | (rw [z2_n (by omega) (by omega)]; exact hA) | (rw [z2_n (by omega) (by omega)]; exact hU)) (by omega) (by first | decide | assumption) ?_
    refine zn_iast (pc := 25) dM_starts_25 (by first | exact z2_a | exact z2_1 | (rw [z2_n (by omega) (by omega)]; exact zu_s) | (rw [z2_n (by omega) (by omega), zu_n (by omega)]; exact hA) | (rw [z2_n (by omega) (by omega)]; exact hA) | (rw [z2_n (by omega) (by omega)]; exact hU)) (by omega) (by first | decide | assumption) ?_
    first | rw [z2_G] | rw [z2_q2] | rw [z2_q3] | rw [z2_q4] | rw [z2_q5] | rw [z2_q6] | rw [z2_q9]
    rw [zu_zu, e]
    refine zn_iinc (pc := 26) (ls2 := [_, _]) dM_starts_26 rfl (Nat.le_of_ble_eq_true rfl) rfl ?_
    refine zs_goto (pc := 29) 7 dM_starts_29 rfl ?_
    exact hz
theorem s_M_starts {Γ : zG} {l : Launch} (hl : l.stackTraces = false) {d : Nat} {h : zH} {n a : Nat} {g : Nat → Nat} {s3 s5 s6 s7 s8 s10 s12 s16 s17 s18 s19 s20 : Int32} {A : Nat → Nat} (hA : h (a + 2) = some (zAr 0 246 A)) : zC Γ l d mM_starts [.ref a] (z2 h a (zAr 0 246 (g)) (zMo a s3 s5 s6 s7 s8 s10 s12 s16 s17 s18 s19 s20)) n 0 0 (zR none (z2 (zu h (a + 2) (zAr 0 246 g)) a (zAr 0 246 (g)) (zMo a s3 s5 s6 s7 (nI 0) s10 s12 s16 s17 s18 s19 s20)) n) := by
  have h9 := lp_M_starts (Γ := Γ) (l := l) (h := h) (n := n) (a := a) (g := g) (s3 := s3) (s5 := s5) (s6 := s6) (s7 := s7) (s8 := nI 0) (s10 := s10) (s12 := s12) (s16 := s16) (s17 := s17) (s18 := s18) (s19 := s19) (s20 := s20) (A := A) hl (d := d) 246 0 rfl
  have e : (fun q => if q < 0 then g q else A q) = A := by
    funext q
    exact if_neg (by omega)
  rw [e, zu_id hA] at h9
  refine zC_of (ls := [some (.ref a), none]) hl (by decide +kernel) rfl (Nat.le_of_ble_eq_true rfl) rfl ?_
  refine zs_aload_n (pc := 0) dM_starts_0 rfl ?_
  refine zs_iconst (pc := 1) dM_starts_1 zi_0 ?_
  refine zs_put (pc := 2) (fs2 := [_, _, _, _, _, _, _, _, _, _, _, _, _, _, _, _, _, _, _, _, _]) dM_starts_2 fM_45 (by first | exact z2_a | exact z2_1 | (rw [z2_n (by omega) (by omega)]; exact zu_s) | (rw [z2_n (by omega) (by omega), zu_n (by omega)]; exact hA) | (rw [z2_n (by omega) (by omega)]; exact hA) | (rw [z2_n (by omega) (by omega)]; exact hU)) (by rfl) (by rfl) (by exact Nat.le_of_ble_eq_true rfl) (by rfl) ?_
  rw [z2_O]
  refine zs_iconst (pc := 5) dM_starts_5 zi_0 ?_
  refine zs_istore_n (pc := 6) (ls2 := [_, _]) dM_starts_6 (Nat.le_of_ble_eq_true rfl) rfl ?_
  exact h9
def zsh1 (U : Nat → Nat) (k : Nat) : Nat → Nat := fun j => if j < k then U (j + 246) else U j
def zst1 (U G : Nat → Nat) (b k : Nat) : Nat → Nat := fun j => if b ≤ j ∧ j < b + k then G (j - b) else U j
theorem lpa_M_changed {Γ : zG} {l : Launch} (hl : l.stackTraces = false) {d : Nat} {h : zH} {n a : Nat} {g : Nat → Nat} {s3 s6 s7 s8 s10 s12 s16 s17 s18 s19 s20 : Int32} {s5 : Int32} {U : Nat → Nat} {x : Int32} {FN : List Frame → Array Value → State → State → Prop} (K : Z Γ l mM_changed d 0 0 FN 49 [some (.ref a), some (.int x), some (.int (nI 1722))] [] (z2 (zu h (a + 4) (zAr 0 1968 (zsh1 U 1722))) a (zAr 0 246 (g)) (zMo a s3 s5 s6 s7 s8 s10 s12 s16 s17 s18 s19 s20)) n 0 0) : ∀ i j, i + j = 1722 → Z Γ l mM_changed d 0 0 FN 20 [some (.ref a), some (.int x), some (.int (nI j))] [] (z2 (zu h (a + 4) (zAr 0 1968 (zsh1 U j))) a (zAr 0 246 (g)) (zMo a s3 s5 s6 s7 s8 s10 s12 s16 s17 s18 s19 s20)) n 0 0 := by
  intro i
  induction i with
  | zero =>
    intro j hj
    obtain rfl : j = 1722 := by omega
    refine zs_iload_n (pc := 20) dM_changed_20 rfl ?_
    refine zs_sipush (pc := 21) dM_changed_21 (zi_s 1722 (by decide)) ?_
    refine zn_icmp_ge (pc := 24) 49 dM_changed_24 rfl (by omega) (by omega) (fun _ => ?_) (fun h9 => absurd h9 (by omega))
    exact K
  | succ i ih =>
    intro j hj
    have hz := ih (j + 1) (by omega)
    have e : zup (zsh1 U j) j (zsh1 U j (j + 246)) = zsh1 U (j + 1) := by
      funext q
      unfold zup zsh1
      (repeat' split) <;> first | rfl | (exfalso; omega) | (congr 1; omega) | omega
    refine zs_iload_n (pc := 20) dM_changed_20 rfl ?_
    refine zs_sipush (pc := 21) dM_changed_21 (zi_s 1722 (by decide)) ?_
    refine zn_icmp_ge (pc := 24) 49 dM_changed_24 rfl (by omega) (by omega) (fun h9 => absurd h9 (by omega)) (fun _ => ?_)
    refine zs_aload_n (pc := 27) dM_changed_27 rfl ?_
    refine zs_get (pc := 28) dM_changed_28 fM_19 (by first | exact z2_a | exact z2_1 | (rw [z2_n (by omega) (by omega)]; exact zu_s) | (rw [z2_n (by omega) (by omega), zu_n (by omega)]; exact hA) | (rw [z2_n (by omega) (by omega)]; exact hA) | (rw [z2_n (by omega) (by omega)]; exact hU)) (by rfl) ?_
    refine zs_iload_n (pc := 31) dM_changed_31 rfl ?_
    refine zs_aload_n (pc := 32) dM_changed_32 rfl ?_
    refine zs_get (pc := 33) dM_changed_33 fM_19 (by first | exact z2_a | exact z2_1 | (rw [z2_n (by omega) (by omega)]; exact zu_s) | (rw [z2_n (by omega) (by omega), zu_n (by omega)]; exact hA) | (rw [z2_n (by omega) (by omega)]; exact hA) | (rw [z2_n (by omega) (by omega)]; exact hU)) (by rfl) ?_
    refine zs_iload_n (pc := 36) dM_changed_36 rfl ?_
    refine zs_sipush (pc := 37) dM_changed_37 (zi_s 246 (by decide)) ?_
    refine zn_iadd (pc := 40) dM_changed_40 ?_
    refine zn_iald (pc := 41) dM_changed_41 (by first | exact z2_a | exact z2_1 | (rw [z2_n (by omega) (by omega)]; exact zu_s) | (rw [z2_n (by omega) (by omega), zu_n (by omega)]; exact hA) | (rw [z2_n (by omega) (by omega)]; exact hA) | (rw [z2_n (by omega) (by omega)]; exact hU)) (by omega) (by first | decide | assumption) ?_
    refine zn_iast (pc := 42) dM_changed_42 (by first | exact z2_a | exact z2_1 | (rw [z2_n (by omega) (by omega)]; exact zu_s) | (rw [z2_n (by omega) (by omega), zu_n (by omega)]; exact hA) | (rw [z2_n (by omega) (by omega)]; exact hA) | (rw [z2_n (by omega) (by omega)]; exact hU)) (by omega) (by first | decide | assumption) ?_
    first | rw [z2_G] | rw [z2_q2] | rw [z2_q3] | rw [z2_q4] | rw [z2_q5] | rw [z2_q6] | rw [z2_q9]
    rw [zu_zu, e]
    refine zn_iinc (pc := 43) (ls2 := [_, _, _]) dM_changed_43 rfl (Nat.le_of_ble_eq_true rfl) rfl ?_
    refine zs_goto (pc := 46) 20 dM_changed_46 rfl ?_
    exact hz
theorem lpb_M_changed {Γ : zG} {l : Launch} (hl : l.stackTraces = false) {d : Nat} {h : zH} {n a : Nat} {g : Nat → Nat} {s3 s6 s7 s8 s10 s12 s16 s17 s18 s19 s20 : Int32} {U G : Nat → Nat} {c : Nat} {x : Int32} {FN : List Frame → Array Value → State → State → Prop} (hA : h (a + 2) = some (zAr 0 246 G)) (hc : c ≤ 7) (K : Z Γ l mM_changed d 0 0 FN 95 [some (.ref a), some (.int x), some (.int (nI 246))] [] (z2 (zu h (a + 4) (zAr 0 1968 (zst1 U G (246 * c) 246))) a (zAr 0 246 (g)) (zMo a s3 (nI c) s6 s7 s8 s10 s12 s16 s17 s18 s19 s20)) n 0 0) : ∀ i j, i + j = 246 → Z Γ l mM_changed d 0 0 FN 61 [some (.ref a), some (.int x), some (.int (nI j))] [] (z2 (zu h (a + 4) (zAr 0 1968 (zst1 U G (246 * c) j))) a (zAr 0 246 (g)) (zMo a s3 (nI c) s6 s7 s8 s10 s12 s16 s17 s18 s19 s20)) n 0 0 := by
  intro i
  induction i with
  | zero =>
    intro j hj
    obtain rfl : j = 246 := by omega
    refine zs_iload_n (pc := 61) dM_changed_61 rfl ?_
    refine zs_sipush (pc := 62) dM_changed_62 (zi_s 246 (by decide)) ?_
    refine zn_icmp_ge (pc := 65) 95 dM_changed_65 rfl (by omega) (by omega) (fun _ => ?_) (fun h9 => absurd h9 (by omega))
    exact K
  | succ i ih =>
    intro j hj
    have hz := ih (j + 1) (by omega)
    have e : zup (zst1 U G (246 * c) j) (246 * c + j) (G j) = zst1 U G (246 * c) (j + 1) := by
      funext q
      dsimp only [zup, zst1]
      by_cases e1 : q = 246 * c + j
      · subst e1
        rw [if_pos rfl, if_pos (by omega)]
        congr 1
        omega
      · (repeat' split) <;> first | rfl | (exfalso; omega) | (congr 1; omega) | omega
    refine zs_iload_n (pc := 61) dM_changed_61 rfl ?_
    refine zs_sipush (pc := 62) dM_changed_62 (zi_s 246 (by decide)) ?_
    refine zn_icmp_ge (pc := 65) 95 dM_changed_65 rfl (by omega) (by omega) (fun h9 => absurd h9 (by omega)) (fun _ => ?_)
    refine zs_aload_n (pc := 68) dM_changed_68 rfl ?_
    refine zs_get (pc := 69) dM_changed_69 fM_19 (by first | exact z2_a | exact z2_1 | (rw [z2_n (by omega) (by omega)]; exact zu_s) | (rw [z2_n (by omega) (by omega), zu_n (by omega)]; exact hA) | (rw [z2_n (by omega) (by omega)]; exact hA) | (rw [z2_n (by omega) (by omega)]; exact hU)) (by rfl) ?_
    refine zs_sipush (pc := 72) dM_changed_72 (zi_s 246 (by decide)) ?_
    refine zs_aload_n (pc := 75) dM_changed_75 rfl ?_
    refine zs_get (pc := 76) dM_changed_76 fM_48 (by first | exact z2_a | exact z2_1 | (rw [z2_n (by omega) (by omega)]; exact zu_s) | (rw [z2_n (by omega) (by omega), zu_n (by omega)]; exact hA) | (rw [z2_n (by omega) (by omega)]; exact hA) | (rw [z2_n (by omega) (by omega)]; exact hU)) (by rfl) ?_
    refine zn_imul (pc := 79) dM_changed_79 ?_
    refine zs_iload_n (pc := 80) dM_changed_80 rfl ?_
    refine zn_iadd (pc := 81) dM_changed_81 ?_
    refine zs_aload_n (pc := 82) dM_changed_82 rfl ?_
    refine zs_get (pc := 83) dM_changed_83 fM_13 (by first | exact z2_a | exact z2_1 | (rw [z2_n (by omega) (by omega)]; exact zu_s) | (rw [z2_n (by omega) (by omega), zu_n (by omega)]; exact hA) | (rw [z2_n (by omega) (by omega)]; exact hA) | (rw [z2_n (by omega) (by omega)]; exact hU)) (by rfl) ?_
    refine zs_iload_n (pc := 86) dM_changed_86 rfl ?_
    refine zn_iald (pc := 87) dM_changed_87 (by first | exact z2_a | exact z2_1 | (rw [z2_n (by omega) (by omega)]; exact zu_s) | (rw [z2_n (by omega) (by omega), zu_n (by omega)]; exact hA) | (rw [z2_n (by omega) (by omega)]; exact hA) | (rw [z2_n (by omega) (by omega)]; exact hU)) (by omega) (by first | decide | assumption) ?_
    refine zn_iast (pc := 88) dM_changed_88 (by first | exact z2_a | exact z2_1 | (rw [z2_n (by omega) (by omega)]; exact zu_s) | (rw [z2_n (by omega) (by omega), zu_n (by omega)]; exact hA) | (rw [z2_n (by omega) (by omega)]; exact hA) | (rw [z2_n (by omega) (by omega)]; exact hU)) (by omega) (by first | decide | assumption) ?_
    first | rw [z2_G] | rw [z2_q2] | rw [z2_q3] | rw [z2_q4] | rw [z2_q5] | rw [z2_q6] | rw [z2_q9]
    rw [zu_zu, e]
    refine zn_iinc (pc := 89) (ls2 := [_, _, _]) dM_changed_89 rfl (Nat.le_of_ble_eq_true rfl) rfl ?_
    refine zs_goto (pc := 92) 61 dM_changed_92 rfl ?_
    exact hz
theorem zPs.st {U : Nat → Nat} {P : Nat → Nat → Nat} {G : Nat → Nat} {c : Nat} (h : zPs U P c) (hc : c ≤ 7) : zPs (zst1 U G (246 * c) 246) (zkeep P c G) (min 8 (c + 1)) := by
  intro k hk j hj
  have ek : zkeep P c G k = if k = c then G else P k := if_neg (by omega)
  rw [ek]
  unfold zst1
  by_cases e : k = c
  · subst e
    rw [if_pos rfl, if_pos (by omega), Nat.add_sub_cancel_left]
  · rw [if_neg e, if_neg (by omega)]
    exact h k (by omega) j hj
theorem zPs.sh {U : Nat → Nat} {P : Nat → Nat → Nat} {G : Nat → Nat} (h : zPs U P 8) : zPs (zst1 (zsh1 U 1722) G (246 * 7) 246) (zkeep P 8 G) (min 8 (8 + 1)) := by
  intro k hk j hj
  have ek : zkeep P 8 G k = if k = 7 then G else P (k + 1) := if_pos rfl
  rw [ek]
  unfold zst1 zsh1
  by_cases e : k = 7
  · subst e
    rw [if_pos rfl, if_pos (by omega), Nat.add_sub_cancel_left]
  · rw [if_neg e, if_neg (by omega), if_pos (by omega), show 246 * k + j + 246 = 246 * (k + 1) + j by omega]
    exact h (k + 1) (by omega) j hj
theorem s_M_changed_n {Γ : zG} {l : Launch} (hl : l.stackTraces = false) {d : Nat} {h : zH} {n a : Nat} {g : Nat → Nat} {s3 s5 s6 s7 s10 s12 s16 s17 s18 s19 s20 : Int32} {e : Nat} {x : Int32} (he : 0 < e) (he2 : e < 4) : zC Γ l d mM_changed [.ref a, .int x] (z2 h a (zAr 0 246 (g)) (zMo a s3 s5 s6 s7 (nI e) s10 s12 s16 s17 s18 s19 s20)) n 0 0 (zR (some (.int x)) (z2 h a (zAr 0 246 (g)) (zMo a s3 s5 s6 s7 (nI e) s10 s12 s16 s17 s18 s19 s20)) n) := by
  refine zC_of (ls := [some (.ref a), some (.int x), none]) hl (by decide +kernel) rfl (Nat.le_of_ble_eq_true rfl) rfl ?_
  refine zs_aload_n (pc := 0) dM_changed_0 rfl ?_
  refine zs_get (pc := 1) dM_changed_1 fM_45 (by first | exact z2_a | exact z2_1 | (rw [z2_n (by omega) (by omega)]; exact zu_s) | (rw [z2_n (by omega) (by omega), zu_n (by omega)]; exact hA) | (rw [z2_n (by omega) (by omega)]; exact hA) | (rw [z2_n (by omega) (by omega)]; exact hU)) (by rfl) ?_
  refine zn_if_le (pc := 4) 9 dM_changed_4 rfl (by omega) (fun h9 => absurd h9 (by omega)) (fun _ => ?_)
  refine zs_iload_n (pc := 7) dM_changed_7 rfl ?_
  exact zs_iret (pc := 8) dM_changed_8 rfl rfl (by omega) (by omega) (⟨rfl, rfl, rfl⟩)
theorem s_M_changed_y {Γ : zG} {l : Launch} (hl : l.stackTraces = false) {d : Nat} {h : zH} {n a : Nat} {g : Nat → Nat} {s3 s6 s7 s10 s12 s16 s17 s18 s19 s20 : Int32} {U G : Nat → Nat} {P : Nat → Nat → Nat} {c : Nat} {x : Int32} (hA : h (a + 2) = some (zAr 0 246 G)) (hU : h (a + 4) = some (zAr 0 1968 U)) (hP : zPs U P c) (hc : c ≤ 8) : zC Γ l d mM_changed [.ref a, .int x] (z2 h a (zAr 0 246 (g)) (zMo a s3 (nI c) s6 s7 (nI 0) s10 s12 s16 s17 s18 s19 s20)) n 0 0 (fun o h1 n1 => o = .inl (some (.int x)) ∧ n1 = n ∧ ∃ U', h1 = (z2 (zu h (a + 4) (zAr 0 1968 U')) a (zAr 0 246 (g)) (zMo a s3 (nI (min 8 (c + 1))) s6 s7 (nI 0) s10 s12 s16 s17 s18 s19 s20)) ∧ zPs U' (zkeep P c G) (min 8 (c + 1))) := by
  have fin : ∀ (c2 : Nat) (U2 : Nat → Nat), c2 ≤ 7 → zPs (zst1 U2 G (246 * c2) 246) (zkeep P c G) (c2 + 1) → c2 + 1 = min 8 (c + 1) → Z Γ l mM_changed d 0 0 (zFin Γ (fun o h1 n1 => o = .inl (some (.int x)) ∧ n1 = n ∧ ∃ U', h1 = (z2 (zu h (a + 4) (zAr 0 1968 U')) a (zAr 0 246 (g)) (zMo a s3 (nI (min 8 (c + 1))) s6 s7 (nI 0) s10 s12 s16 s17 s18 s19 s20)) ∧ zPs U' (zkeep P c G) (min 8 (c + 1))) 0 0) 61 [some (.ref a), some (.int x), some (.int (nI 0))] [] (z2 (zu h (a + 4) (zAr 0 1968 U2)) a (zAr 0 246 (g)) (zMo a s3 (nI c2) s6 s7 (nI 0) s10 s12 s16 s17 s18 s19 s20)) n 0 0 := by
    intro c2 U2 hc2 hP2 he
    have h9 := lpb_M_changed (Γ := Γ) (l := l) (h := h) (n := n) (a := a) (g := g) (s3 := s3) (s6 := s6) (s7 := s7) (s8 := nI 0) (s10 := s10) (s12 := s12) (s16 := s16) (s17 := s17) (s18 := s18) (s19 := s19) (s20 := s20) (U := U2) (x := x) (FN := zFin Γ (fun o h1 n1 => o = .inl (some (.int x)) ∧ n1 = n ∧ ∃ U', h1 = (z2 (zu h (a + 4) (zAr 0 1968 U')) a (zAr 0 246 (g)) (zMo a s3 (nI (min 8 (c + 1))) s6 s7 (nI 0) s10 s12 s16 s17 s18 s19 s20)) ∧ zPs U' (zkeep P c G) (min 8 (c + 1))) 0 0) hl (d := d) hA hc2 (by
      rw [← he]
      refine zs_aload_n (pc := 95) dM_changed_95 rfl ?_
      refine zs_dup (pc := 96) dM_changed_96 rfl ?_
      refine zs_get (pc := 97) dM_changed_97 fM_48 (by first | exact z2_a | exact z2_1 | (rw [z2_n (by omega) (by omega)]; exact zu_s) | (rw [z2_n (by omega) (by omega), zu_n (by omega)]; exact hA) | (rw [z2_n (by omega) (by omega)]; exact hA) | (rw [z2_n (by omega) (by omega)]; exact hU)) (by rfl) ?_
      refine zs_iconst (pc := 100) dM_changed_100 zi_1 ?_
      refine zn_iadd (pc := 101) dM_changed_101 ?_
      refine zs_put (pc := 102) (fs2 := [_, _, _, _, _, _, _, _, _, _, _, _, _, _, _, _, _, _, _, _, _]) dM_changed_102 fM_48 (by first | exact z2_a | exact z2_1 | (rw [z2_n (by omega) (by omega)]; exact zu_s) | (rw [z2_n (by omega) (by omega), zu_n (by omega)]; exact hA) | (rw [z2_n (by omega) (by omega)]; exact hA) | (rw [z2_n (by omega) (by omega)]; exact hU)) (by rfl) (by rfl) (by exact Nat.le_of_ble_eq_true rfl) (by rfl) ?_
      rw [z2_O]
      refine zs_iload_n (pc := 105) dM_changed_105 rfl ?_
      exact zs_iret (pc := 106) dM_changed_106 rfl rfl (by omega) (by omega) ⟨rfl, rfl, _, rfl, hP2⟩) 246 0 rfl
    have e : zst1 U2 G (246 * c2) 0 = U2 := by
      funext j
      unfold zst1
      rw [if_neg (by omega)]
    rw [e] at h9
    exact h9
  refine zC_of (ls := [some (.ref a), some (.int x), none]) hl (by decide +kernel) rfl (Nat.le_of_ble_eq_true rfl) rfl ?_
  by_cases e8 : c = 8
  · subst e8
    have h8 := lpa_M_changed (Γ := Γ) (l := l) (h := h) (n := n) (a := a) (g := g) (s3 := s3) (s5 := nI 8) (s6 := s6) (s7 := s7) (s8 := nI 0) (s10 := s10) (s12 := s12) (s16 := s16) (s17 := s17) (s18 := s18) (s19 := s19) (s20 := s20) (U := U) (x := x) (FN := zFin Γ (fun o h1 n1 => o = .inl (some (.int x)) ∧ n1 = n ∧ ∃ U', h1 = (z2 (zu h (a + 4) (zAr 0 1968 U')) a (zAr 0 246 (g)) (zMo a s3 (nI (min 8 (8 + 1))) s6 s7 (nI 0) s10 s12 s16 s17 s18 s19 s20)) ∧ zPs U' (zkeep P 8 G) (min 8 (8 + 1))) 0 0) hl (d := d) (by
      have h7 := fin 7 (zsh1 U 1722) (by decide) hP.sh rfl
      refine zs_aload_n (pc := 49) dM_changed_49 rfl ?_
      refine zs_dup (pc := 50) dM_changed_50 rfl ?_
      refine zs_get (pc := 51) dM_changed_51 fM_48 (by first | exact z2_a | exact z2_1 | (rw [z2_n (by omega) (by omega)]; exact zu_s) | (rw [z2_n (by omega) (by omega), zu_n (by omega)]; exact hA) | (rw [z2_n (by omega) (by omega)]; exact hA) | (rw [z2_n (by omega) (by omega)]; exact hU)) (by rfl) ?_
      refine zs_iconst (pc := 54) dM_changed_54 zi_1 ?_
      refine zn_isub (pc := 55) dM_changed_55 (by omega) ?_
      refine zs_put (pc := 56) (fs2 := [_, _, _, _, _, _, _, _, _, _, _, _, _, _, _, _, _, _, _, _, _]) dM_changed_56 fM_48 (by first | exact z2_a | exact z2_1 | (rw [z2_n (by omega) (by omega)]; exact zu_s) | (rw [z2_n (by omega) (by omega), zu_n (by omega)]; exact hA) | (rw [z2_n (by omega) (by omega)]; exact hA) | (rw [z2_n (by omega) (by omega)]; exact hU)) (by rfl) (by rfl) (by exact Nat.le_of_ble_eq_true rfl) (by rfl) ?_
      rw [z2_O]
      refine zs_iconst (pc := 59) dM_changed_59 zi_0 ?_
      refine zs_istore_n (pc := 60) (ls2 := [_, _, _]) dM_changed_60 (Nat.le_of_ble_eq_true rfl) rfl ?_
      exact h7) 1722 0 rfl
    have e : zsh1 U 0 = U := by
      funext j
      unfold zsh1
      rw [if_neg (by omega)]
    rw [e, zu_id hU] at h8
    refine zs_aload_n (pc := 0) dM_changed_0 rfl ?_
    refine zs_get (pc := 1) dM_changed_1 fM_45 (by first | exact z2_a | exact z2_1 | (rw [z2_n (by omega) (by omega)]; exact zu_s) | (rw [z2_n (by omega) (by omega), zu_n (by omega)]; exact hA) | (rw [z2_n (by omega) (by omega)]; exact hA) | (rw [z2_n (by omega) (by omega)]; exact hU)) (by rfl) ?_
    refine zn_if_le (pc := 4) 9 dM_changed_4 rfl (by omega) (fun _ => ?_) (fun h9 => absurd h9 (by decide))
    refine zs_aload_n (pc := 9) dM_changed_9 rfl ?_
    refine zs_get (pc := 10) dM_changed_10 fM_48 (by first | exact z2_a | exact z2_1 | (rw [z2_n (by omega) (by omega)]; exact zu_s) | (rw [z2_n (by omega) (by omega), zu_n (by omega)]; exact hA) | (rw [z2_n (by omega) (by omega)]; exact hA) | (rw [z2_n (by omega) (by omega)]; exact hU)) (by rfl) ?_
    refine zs_bipush (pc := 13) dM_changed_13 (zi_b 8 (by decide)) ?_
    refine zn_icmp_ne (pc := 15) 59 dM_changed_15 rfl (by omega) (by omega) (fun h9 => absurd h9 (by decide)) (fun _ => ?_)
    refine zs_iconst (pc := 18) dM_changed_18 zi_0 ?_
    refine zs_istore_n (pc := 19) (ls2 := [_, _, _]) dM_changed_19 (Nat.le_of_ble_eq_true rfl) rfl ?_
    exact h8
  · have h7 := fin c U (by omega) (by
      have := hP.st (G := G) (by omega)
      rw [show min 8 (c + 1) = c + 1 by omega] at this
      exact this) (by omega)
    rw [zu_id hU] at h7
    refine zs_aload_n (pc := 0) dM_changed_0 rfl ?_
    refine zs_get (pc := 1) dM_changed_1 fM_45 (by first | exact z2_a | exact z2_1 | (rw [z2_n (by omega) (by omega)]; exact zu_s) | (rw [z2_n (by omega) (by omega), zu_n (by omega)]; exact hA) | (rw [z2_n (by omega) (by omega)]; exact hA) | (rw [z2_n (by omega) (by omega)]; exact hU)) (by rfl) ?_
    refine zn_if_le (pc := 4) 9 dM_changed_4 rfl (by omega) (fun _ => ?_) (fun h9 => absurd h9 (by decide))
    refine zs_aload_n (pc := 9) dM_changed_9 rfl ?_
    refine zs_get (pc := 10) dM_changed_10 fM_48 (by first | exact z2_a | exact z2_1 | (rw [z2_n (by omega) (by omega)]; exact zu_s) | (rw [z2_n (by omega) (by omega), zu_n (by omega)]; exact hA) | (rw [z2_n (by omega) (by omega)]; exact hA) | (rw [z2_n (by omega) (by omega)]; exact hU)) (by rfl) ?_
    refine zs_bipush (pc := 13) dM_changed_13 (zi_b 8 (by decide)) ?_
    refine zn_icmp_ne (pc := 15) 59 dM_changed_15 rfl (by omega) (by omega) (fun _ => ?_) (fun h9 => absurd h9 (e8))
    refine zs_iconst (pc := 59) dM_changed_59 zi_0 ?_
    refine zs_istore_n (pc := 60) (ls2 := [_, _, _]) dM_changed_60 (Nat.le_of_ble_eq_true rfl) rfl ?_
    exact h7
theorem zmth_0 {o : zOp} : zmth (nI 0) o = nI o.1 := by
  unfold zmth
  split
  · rename_i e
    rw [e]
  · rfl
theorem s_M_changed {Γ : zG} {l : Launch} (hl : l.stackTraces = false) {d : Nat} {h : zH} {n a : Nat} {g : Nat → Nat} {s3 s6 s7 s10 s12 s16 s17 s18 s19 s20 : Int32} {U G : Nat → Nat} {P : Nat → Nat → Nat} {c e : Nat} {x : Int32} (hA : h (a + 2) = some (zAr 0 246 G)) (hU : h (a + 4) = some (zAr 0 1968 U)) (hP : zPs U P c) (hc : c ≤ 8) (he : e < 4) : zC Γ l d mM_changed [.ref a, .int x] (z2 h a (zAr 0 246 (g)) (zMo a s3 (nI c) s6 s7 (nI e) s10 s12 s16 s17 s18 s19 s20)) n 0 0 (fun o h1 n1 => o = .inl (some (.int x)) ∧ n1 = n ∧ ∃ U', h1 = (z2 (zu h (a + 4) (zAr 0 1968 U')) a (zAr 0 246 (g)) (zMo a s3 (nI (zkc e c)) s6 s7 (nI e) s10 s12 s16 s17 s18 s19 s20)) ∧ zPs U' (zkP e P c G) (zkc e c)) := by
  by_cases e0 : e = 0
  · subst e0
    exact s_M_changed_y hl hA hU hP hc
  · have e1 : zkP e P c G = P := if_neg e0
    have e2 : zkc e c = c := if_neg e0
    rw [e1, e2]
    refine zC_of (ls := [some (.ref a), some (.int x), none]) hl (by decide +kernel) rfl (Nat.le_of_ble_eq_true rfl) rfl ?_
    refine zs_aload_n (pc := 0) dM_changed_0 rfl ?_
    refine zs_get (pc := 1) dM_changed_1 fM_45 (by first | exact z2_a | exact z2_1 | (rw [z2_n (by omega) (by omega)]; exact zu_s) | (rw [z2_n (by omega) (by omega), zu_n (by omega)]; exact hA) | (rw [z2_n (by omega) (by omega)]; exact hA) | (rw [z2_n (by omega) (by omega)]; exact hU)) (by rfl) ?_
    refine zn_if_le (pc := 4) 9 dM_changed_4 rfl (by omega) (fun h9 => absurd h9 (by omega)) (fun _ => ?_)
    refine zs_iload_n (pc := 7) dM_changed_7 rfl ?_
    exact zs_iret (pc := 8) dM_changed_8 rfl rfl (by omega) (by omega) (⟨rfl, rfl, U, by rw [zu_id hU], hP⟩)
theorem zEs_4 : ∀ k, k < 10 → (zEs k).length ≤ 4 := by decide +kernel

theorem s_M_addEntry {Γ : zG} {l : Launch} (hl : l.stackTraces = false) {d : Nat} (hd : 6 ≤ d) {h : zH} {n a : Nat} {g : Nat → Nat} {s3 s6 s7 s8 s10 s12 s16 s17 s18 s19 s20 : Int32} {U A : Nat → Nat} {P : Nat → Nat → Nat} {c B : Nat} (hA : h (a + 2) = some (zAr 0 246 A)) (hU : h (a + 4) = some (zAr 0 1968 U)) (hP : zPs U P c) (hc : c ≤ 8) (hI : IG B g) (hB2 : B + 20 < 2 ^ 20) (y : Int32) : zC Γ l d mM_addEntry [.ref a, .int y] (z2 h a (zAr 0 246 (g)) (zMo a s3 (nI c) s6 s7 s8 s10 s12 s16 s17 s18 s19 s20)) n 0 0 (fun o h1 n1 => o = .inl (some (.int (zma (zdo g 0 y (nI 0))))) ∧ n1 = n ∧ ∃ U', h1 = (z2 (zu (zu h (a + 2) (zAr 0 246 g)) (a + 4) (zAr 0 1968 U')) a (zAr 0 246 ((zdo g 0 y (nI 0)).2.2)) (zMo a s3 (nI (zkc (zdo g 0 y (nI 0)).1 c)) s6 s7 (nI (zdo g 0 y (nI 0)).1) s10 s12 s16 s17 s18 s19 s20)) ∧ zPs U' (zkP (zdo g 0 y (nI 0)).1 P c g) (zkc (zdo g 0 y (nI 0)).1 c)) := by
  have hB : B < 2 ^ 20 := by omega
  have hlim := (zdo_lim (g := g) (k := 0) (by decide) y (nI 0)).1
  have h4 := zEs_4 0 (by decide)
  have eo : zopAdd g y = zdo g 0 y (nI 0) := rfl
  refine zC_of (ls := [some (.ref a), some (.int y)]) hl (by decide +kernel) rfl (Nat.le_of_ble_eq_true rfl) rfl ?_
  refine zs_aload_n (pc := 0) dM_addEntry_0 rfl ?_
  refine zcV0_0 (pc := 1) (d2 := d - 1) (s_M_starts hl hA) dM_addEntry_1 kM_93 mdM_starts miM_starts mvM_starts rfl (by exact z2_a) rfl (Nat.le_of_ble_eq_true rfl) (by omega) (by omega) (by omega) ?_
  refine zs_aload_n (pc := 4) dM_addEntry_4 rfl ?_
  refine zs_aload_n (pc := 5) dM_addEntry_5 rfl ?_
  refine zs_iload_n (pc := 6) dM_addEntry_6 rfl ?_
  refine zcV1_1 (pc := 7) (d2 := d - 1) (s_M_entryIt hl (by omega) hI hB y) dM_addEntry_7 kM_96 mdM_entryIt miM_entryIt mvM_entryIt rfl (by exact z2_a) rfl (Nat.le_of_ble_eq_true rfl) (by omega) (by omega) (by omega) ?_
  rw [eo]
  generalize zdo g 0 y (nI 0) = op at hlim ⊢
  rw [zmth_0]
  refine zcVQ_1 (pc := 10) (d2 := d - 1) (s_M_changed (G := g) hl zu_s (by rw [zu_n (by omega)]; exact hU) hP hc (e := op.1) (by omega)) dM_addEntry_10 kM_99 mdM_changed miM_changed mvM_changed rfl (by exact z2_a) rfl (Nat.le_of_ble_eq_true rfl) (by omega) (by omega) (by omega) (fun v h1 n1 hq => ?_) (fun E h1 n1 hq => absurd hq.1 (by intro q; cases q))
  obtain ⟨hv9, rfl, U2, rfl, hP2⟩ := hq
  obtain rfl := Sum.inl.inj hv9
  exact zs_iret (pc := 13) dM_addEntry_13 rfl rfl (by omega) (by omega) (⟨rfl, rfl, U2, rfl, hP2⟩)
theorem s_M_addCode {Γ : zG} {l : Launch} (hl : l.stackTraces = false) {d : Nat} (hd : 6 ≤ d) {h : zH} {n a : Nat} {g : Nat → Nat} {s3 s6 s7 s8 s10 s12 s16 s17 s18 s19 s20 : Int32} {U A : Nat → Nat} {P : Nat → Nat → Nat} {c B : Nat} (hA : h (a + 2) = some (zAr 0 246 A)) (hU : h (a + 4) = some (zAr 0 1968 U)) (hP : zPs U P c) (hc : c ≤ 8) (hI : IG B g) (hB2 : B + 20 < 2 ^ 20) (y z : Int32) : zC Γ l d mM_addCode [.ref a, .int y, .int z] (z2 h a (zAr 0 246 (g)) (zMo a s3 (nI c) s6 s7 s8 s10 s12 s16 s17 s18 s19 s20)) n 0 0 (fun o h1 n1 => o = .inl (some (.int (zma (zdo g 1 y z)))) ∧ n1 = n ∧ ∃ U', h1 = (z2 (zu (zu h (a + 2) (zAr 0 246 g)) (a + 4) (zAr 0 1968 U')) a (zAr 0 246 ((zdo g 1 y z).2.2)) (zMo a s3 (nI (zkc (zdo g 1 y z).1 c)) s6 s7 (nI (zdo g 1 y z).1) s10 s12 s16 s17 s18 s19 s20)) ∧ zPs U' (zkP (zdo g 1 y z).1 P c g) (zkc (zdo g 1 y z).1 c)) := by
  have hB : B < 2 ^ 20 := by omega
  have hlim := (zdo_lim (g := g) (k := 1) (by decide) y z).1
  have h4 := zEs_4 1 (by decide)
  have eo : zopCode g y z = zdo g 1 y z := rfl
  refine zC_of (ls := [some (.ref a), some (.int y), some (.int z)]) hl (by decide +kernel) rfl (Nat.le_of_ble_eq_true rfl) rfl ?_
  refine zs_aload_n (pc := 0) dM_addCode_0 rfl ?_
  refine zcV0_0 (pc := 1) (d2 := d - 1) (s_M_starts hl hA) dM_addCode_1 kM_93 mdM_starts miM_starts mvM_starts rfl (by exact z2_a) rfl (Nat.le_of_ble_eq_true rfl) (by omega) (by omega) (by omega) ?_
  refine zs_aload_n (pc := 4) dM_addCode_4 rfl ?_
  refine zs_aload_n (pc := 5) dM_addCode_5 rfl ?_
  refine zs_iload_n (pc := 6) dM_addCode_6 rfl ?_
  refine zs_iload_n (pc := 7) dM_addCode_7 rfl ?_
  refine zcV1_2 (pc := 8) (d2 := d - 1) (s_M_codeIt hl (by omega) hI hB y z) dM_addCode_8 kM_111 mdM_codeIt miM_codeIt mvM_codeIt rfl (by exact z2_a) rfl (Nat.le_of_ble_eq_true rfl) (by omega) (by omega) (by omega) ?_
  rw [eo]
  generalize zdo g 1 y z = op at hlim ⊢
  rw [zmth_0]
  refine zcVQ_1 (pc := 11) (d2 := d - 1) (s_M_changed (G := g) hl zu_s (by rw [zu_n (by omega)]; exact hU) hP hc (e := op.1) (by omega)) dM_addCode_11 kM_99 mdM_changed miM_changed mvM_changed rfl (by exact z2_a) rfl (Nat.le_of_ble_eq_true rfl) (by omega) (by omega) (by omega) (fun v h1 n1 hq => ?_) (fun E h1 n1 hq => absurd hq.1 (by intro q; cases q))
  obtain ⟨hv9, rfl, U2, rfl, hP2⟩ := hq
  obtain rfl := Sum.inl.inj hv9
  exact zs_iret (pc := 14) dM_addCode_14 rfl rfl (by omega) (by omega) (⟨rfl, rfl, U2, rfl, hP2⟩)
theorem s_M_removeCode {Γ : zG} {l : Launch} (hl : l.stackTraces = false) {d : Nat} (hd : 6 ≤ d) {h : zH} {n a : Nat} {g : Nat → Nat} {s3 s6 s7 s8 s10 s12 s16 s17 s18 s19 s20 : Int32} {U A : Nat → Nat} {P : Nat → Nat → Nat} {c B : Nat} (hA : h (a + 2) = some (zAr 0 246 A)) (hU : h (a + 4) = some (zAr 0 1968 U)) (hP : zPs U P c) (hc : c ≤ 8) (hI : IG B g) (hB2 : B + 20 < 2 ^ 20) (y z : Int32) : zC Γ l d mM_removeCode [.ref a, .int y, .int z] (z2 h a (zAr 0 246 (g)) (zMo a s3 (nI c) s6 s7 s8 s10 s12 s16 s17 s18 s19 s20)) n 0 0 (fun o h1 n1 => o = .inl (some (.int (zma (zdo g 2 y z)))) ∧ n1 = n ∧ ∃ U', h1 = (z2 (zu (zu h (a + 2) (zAr 0 246 g)) (a + 4) (zAr 0 1968 U')) a (zAr 0 246 ((zdo g 2 y z).2.2)) (zMo a s3 (nI (zkc (zdo g 2 y z).1 c)) s6 s7 (nI (zdo g 2 y z).1) s10 s12 s16 s17 s18 s19 s20)) ∧ zPs U' (zkP (zdo g 2 y z).1 P c g) (zkc (zdo g 2 y z).1 c)) := by
  have hB : B < 2 ^ 20 := by omega
  have hlim := (zdo_lim (g := g) (k := 2) (by decide) y z).1
  have h4 := zEs_4 2 (by decide)
  have eo : zopUncode g y z = zdo g 2 y z := rfl
  refine zC_of (ls := [some (.ref a), some (.int y), some (.int z)]) hl (by decide +kernel) rfl (Nat.le_of_ble_eq_true rfl) rfl ?_
  refine zs_aload_n (pc := 0) dM_removeCode_0 rfl ?_
  refine zcV0_0 (pc := 1) (d2 := d - 1) (s_M_starts hl hA) dM_removeCode_1 kM_93 mdM_starts miM_starts mvM_starts rfl (by exact z2_a) rfl (Nat.le_of_ble_eq_true rfl) (by omega) (by omega) (by omega) ?_
  refine zs_aload_n (pc := 4) dM_removeCode_4 rfl ?_
  refine zs_aload_n (pc := 5) dM_removeCode_5 rfl ?_
  refine zs_iload_n (pc := 6) dM_removeCode_6 rfl ?_
  refine zs_iload_n (pc := 7) dM_removeCode_7 rfl ?_
  refine zcV1_2 (pc := 8) (d2 := d - 1) (s_M_uncodeIt hl (by omega) hI hB y z) dM_removeCode_8 kM_114 mdM_uncodeIt miM_uncodeIt mvM_uncodeIt rfl (by exact z2_a) rfl (Nat.le_of_ble_eq_true rfl) (by omega) (by omega) (by omega) ?_
  rw [eo]
  generalize zdo g 2 y z = op at hlim ⊢
  rw [zmth_0]
  refine zcVQ_1 (pc := 11) (d2 := d - 1) (s_M_changed (G := g) hl zu_s (by rw [zu_n (by omega)]; exact hU) hP hc (e := op.1) (by omega)) dM_removeCode_11 kM_99 mdM_changed miM_changed mvM_changed rfl (by exact z2_a) rfl (Nat.le_of_ble_eq_true rfl) (by omega) (by omega) (by omega) (fun v h1 n1 hq => ?_) (fun E h1 n1 hq => absurd hq.1 (by intro q; cases q))
  obtain ⟨hv9, rfl, U2, rfl, hP2⟩ := hq
  obtain rfl := Sum.inl.inj hv9
  exact zs_iret (pc := 14) dM_removeCode_14 rfl rfl (by omega) (by omega) (⟨rfl, rfl, U2, rfl, hP2⟩)
theorem s_M_removeEntry {Γ : zG} {l : Launch} (hl : l.stackTraces = false) {d : Nat} (hd : 6 ≤ d) {h : zH} {n a : Nat} {g : Nat → Nat} {s3 s6 s7 s8 s10 s12 s16 s17 s18 s19 s20 : Int32} {U A : Nat → Nat} {P : Nat → Nat → Nat} {c B : Nat} (hA : h (a + 2) = some (zAr 0 246 A)) (hU : h (a + 4) = some (zAr 0 1968 U)) (hP : zPs U P c) (hc : c ≤ 8) (hI : IG B g) (hB2 : B + 20 < 2 ^ 20) (y : Int32) : zC Γ l d mM_removeEntry [.ref a, .int y] (z2 h a (zAr 0 246 (g)) (zMo a s3 (nI c) s6 s7 s8 s10 s12 s16 s17 s18 s19 s20)) n 0 0 (fun o h1 n1 => o = .inl (some (.int (zma (zdo g 3 y (nI 0))))) ∧ n1 = n ∧ ∃ U', h1 = (z2 (zu (zu h (a + 2) (zAr 0 246 g)) (a + 4) (zAr 0 1968 U')) a (zAr 0 246 ((zdo g 3 y (nI 0)).2.2)) (zMo a s3 (nI (zkc (zdo g 3 y (nI 0)).1 c)) s6 s7 (nI (zdo g 3 y (nI 0)).1) s10 s12 s16 s17 s18 s19 s20)) ∧ zPs U' (zkP (zdo g 3 y (nI 0)).1 P c g) (zkc (zdo g 3 y (nI 0)).1 c)) := by
  have hB : B < 2 ^ 20 := by omega
  have hlim := (zdo_lim (g := g) (k := 3) (by decide) y (nI 0)).1
  have h4 := zEs_4 3 (by decide)
  have eo : zopDrop g y = zdo g 3 y (nI 0) := rfl
  refine zC_of (ls := [some (.ref a), some (.int y)]) hl (by decide +kernel) rfl (Nat.le_of_ble_eq_true rfl) rfl ?_
  refine zs_aload_n (pc := 0) dM_removeEntry_0 rfl ?_
  refine zcV0_0 (pc := 1) (d2 := d - 1) (s_M_starts hl hA) dM_removeEntry_1 kM_93 mdM_starts miM_starts mvM_starts rfl (by exact z2_a) rfl (Nat.le_of_ble_eq_true rfl) (by omega) (by omega) (by omega) ?_
  refine zs_aload_n (pc := 4) dM_removeEntry_4 rfl ?_
  refine zs_aload_n (pc := 5) dM_removeEntry_5 rfl ?_
  refine zs_iload_n (pc := 6) dM_removeEntry_6 rfl ?_
  refine zcV1_1 (pc := 7) (d2 := d - 1) (s_M_dropIt hl (by omega) hI hB y) dM_removeEntry_7 kM_121 mdM_dropIt miM_dropIt mvM_dropIt rfl (by exact z2_a) rfl (Nat.le_of_ble_eq_true rfl) (by omega) (by omega) (by omega) ?_
  rw [eo]
  generalize zdo g 3 y (nI 0) = op at hlim ⊢
  rw [zmth_0]
  refine zcVQ_1 (pc := 10) (d2 := d - 1) (s_M_changed (G := g) hl zu_s (by rw [zu_n (by omega)]; exact hU) hP hc (e := op.1) (by omega)) dM_removeEntry_10 kM_99 mdM_changed miM_changed mvM_changed rfl (by exact z2_a) rfl (Nat.le_of_ble_eq_true rfl) (by omega) (by omega) (by omega) (fun v h1 n1 hq => ?_) (fun E h1 n1 hq => absurd hq.1 (by intro q; cases q))
  obtain ⟨hv9, rfl, U2, rfl, hP2⟩ := hq
  obtain rfl := Sum.inl.inj hv9
  exact zs_iret (pc := 13) dM_removeEntry_13 rfl rfl (by omega) (by omega) (⟨rfl, rfl, U2, rfl, hP2⟩)
theorem s_M_touch {Γ : zG} {l : Launch} (hl : l.stackTraces = false) {d : Nat} (hd : 6 ≤ d) {h : zH} {n a : Nat} {g : Nat → Nat} {s3 s6 s7 s8 s10 s12 s16 s17 s18 s19 s20 : Int32} {U A : Nat → Nat} {P : Nat → Nat → Nat} {c B : Nat} (hA : h (a + 2) = some (zAr 0 246 A)) (hU : h (a + 4) = some (zAr 0 1968 U)) (hP : zPs U P c) (hc : c ≤ 8) (hI : IG B g) (hB2 : B + 20 < 2 ^ 20) (y : Int32) : zC Γ l d mM_touch [.ref a, .int y] (z2 h a (zAr 0 246 (g)) (zMo a s3 (nI c) s6 s7 s8 s10 s12 s16 s17 s18 s19 s20)) n 0 0 (fun o h1 n1 => o = .inl (some (.int (zma (zdo g 4 y (nI 0))))) ∧ n1 = n ∧ ∃ U', h1 = (z2 (zu (zu h (a + 2) (zAr 0 246 g)) (a + 4) (zAr 0 1968 U')) a (zAr 0 246 ((zdo g 4 y (nI 0)).2.2)) (zMo a s3 (nI (zkc (zdo g 4 y (nI 0)).1 c)) s6 s7 (nI (zdo g 4 y (nI 0)).1) s10 s12 s16 s17 s18 s19 s20)) ∧ zPs U' (zkP (zdo g 4 y (nI 0)).1 P c g) (zkc (zdo g 4 y (nI 0)).1 c)) := by
  have hB : B < 2 ^ 20 := by omega
  have hlim := (zdo_lim (g := g) (k := 4) (by decide) y (nI 0)).1
  have h4 := zEs_4 4 (by decide)
  have eo : zopTouch g y = zdo g 4 y (nI 0) := rfl
  refine zC_of (ls := [some (.ref a), some (.int y)]) hl (by decide +kernel) rfl (Nat.le_of_ble_eq_true rfl) rfl ?_
  refine zs_aload_n (pc := 0) dM_touch_0 rfl ?_
  refine zcV0_0 (pc := 1) (d2 := d - 1) (s_M_starts hl hA) dM_touch_1 kM_93 mdM_starts miM_starts mvM_starts rfl (by exact z2_a) rfl (Nat.le_of_ble_eq_true rfl) (by omega) (by omega) (by omega) ?_
  refine zs_aload_n (pc := 4) dM_touch_4 rfl ?_
  refine zs_aload_n (pc := 5) dM_touch_5 rfl ?_
  refine zs_iload_n (pc := 6) dM_touch_6 rfl ?_
  refine zcV1_1 (pc := 7) (d2 := d - 1) (s_M_touchIt hl (by omega) hI hB y) dM_touch_7 kM_124 mdM_touchIt miM_touchIt mvM_touchIt rfl (by exact z2_a) rfl (Nat.le_of_ble_eq_true rfl) (by omega) (by omega) (by omega) ?_
  rw [eo]
  generalize zdo g 4 y (nI 0) = op at hlim ⊢
  rw [zmth_0]
  refine zcVQ_1 (pc := 10) (d2 := d - 1) (s_M_changed (G := g) hl zu_s (by rw [zu_n (by omega)]; exact hU) hP hc (e := op.1) (by omega)) dM_touch_10 kM_99 mdM_changed miM_changed mvM_changed rfl (by exact z2_a) rfl (Nat.le_of_ble_eq_true rfl) (by omega) (by omega) (by omega) (fun v h1 n1 hq => ?_) (fun E h1 n1 hq => absurd hq.1 (by intro q; cases q))
  obtain ⟨hv9, rfl, U2, rfl, hP2⟩ := hq
  obtain rfl := Sum.inl.inj hv9
  exact zs_iret (pc := 13) dM_touch_13 rfl rfl (by omega) (by omega) (⟨rfl, rfl, U2, rfl, hP2⟩)
theorem s_M_merge {Γ : zG} {l : Launch} (hl : l.stackTraces = false) {d : Nat} (hd : 6 ≤ d) {h : zH} {n a : Nat} {g : Nat → Nat} {s3 s6 s7 s8 s10 s12 s16 s17 s18 s19 s20 : Int32} {U A : Nat → Nat} {P : Nat → Nat → Nat} {c B : Nat} (hA : h (a + 2) = some (zAr 0 246 A)) (hU : h (a + 4) = some (zAr 0 1968 U)) (hP : zPs U P c) (hc : c ≤ 8) (hI : IG B g) (hB2 : B + 20 < 2 ^ 20) (y z : Int32) : zC Γ l d mM_merge [.ref a, .int y, .int z] (z2 h a (zAr 0 246 (g)) (zMo a s3 (nI c) s6 s7 s8 s10 s12 s16 s17 s18 s19 s20)) n 0 0 (fun o h1 n1 => o = .inl (some (.int (zma (zdo g 5 y z)))) ∧ n1 = n ∧ ∃ U', h1 = (z2 (zu (zu h (a + 2) (zAr 0 246 g)) (a + 4) (zAr 0 1968 U')) a (zAr 0 246 ((zdo g 5 y z).2.2)) (zMo a s3 (nI (zkc (zdo g 5 y z).1 c)) s6 s7 (nI (zdo g 5 y z).1) s10 s12 s16 s17 s18 s19 s20)) ∧ zPs U' (zkP (zdo g 5 y z).1 P c g) (zkc (zdo g 5 y z).1 c)) := by
  have hB : B < 2 ^ 20 := by omega
  have hlim := (zdo_lim (g := g) (k := 5) (by decide) y z).1
  have h4 := zEs_4 5 (by decide)
  have eo : zopMerge g y z = zdo g 5 y z := rfl
  refine zC_of (ls := [some (.ref a), some (.int y), some (.int z)]) hl (by decide +kernel) rfl (Nat.le_of_ble_eq_true rfl) rfl ?_
  refine zs_aload_n (pc := 0) dM_merge_0 rfl ?_
  refine zcV0_0 (pc := 1) (d2 := d - 1) (s_M_starts hl hA) dM_merge_1 kM_93 mdM_starts miM_starts mvM_starts rfl (by exact z2_a) rfl (Nat.le_of_ble_eq_true rfl) (by omega) (by omega) (by omega) ?_
  refine zs_aload_n (pc := 4) dM_merge_4 rfl ?_
  refine zs_aload_n (pc := 5) dM_merge_5 rfl ?_
  refine zs_iload_n (pc := 6) dM_merge_6 rfl ?_
  refine zs_iload_n (pc := 7) dM_merge_7 rfl ?_
  refine zcV1_2 (pc := 8) (d2 := d - 1) (s_M_mergeIt hl (by omega) hI hB y z) dM_merge_8 kM_133 mdM_mergeIt miM_mergeIt mvM_mergeIt rfl (by exact z2_a) rfl (Nat.le_of_ble_eq_true rfl) (by omega) (by omega) (by omega) ?_
  rw [eo]
  generalize zdo g 5 y z = op at hlim ⊢
  rw [zmth_0]
  refine zcVQ_1 (pc := 11) (d2 := d - 1) (s_M_changed (G := g) hl zu_s (by rw [zu_n (by omega)]; exact hU) hP hc (e := op.1) (by omega)) dM_merge_11 kM_99 mdM_changed miM_changed mvM_changed rfl (by exact z2_a) rfl (Nat.le_of_ble_eq_true rfl) (by omega) (by omega) (by omega) (fun v h1 n1 hq => ?_) (fun E h1 n1 hq => absurd hq.1 (by intro q; cases q))
  obtain ⟨hv9, rfl, U2, rfl, hP2⟩ := hq
  obtain rfl := Sum.inl.inj hv9
  exact zs_iret (pc := 14) dM_merge_14 rfl rfl (by omega) (by omega) (⟨rfl, rfl, U2, rfl, hP2⟩)
theorem s_M_startSegment {Γ : zG} {l : Launch} (hl : l.stackTraces = false) {d : Nat} (hd : 6 ≤ d) {h : zH} {n a : Nat} {g : Nat → Nat} {s3 s6 s7 s8 s10 s12 s16 s17 s18 s19 s20 : Int32} {U A : Nat → Nat} {P : Nat → Nat → Nat} {c B : Nat} (hA : h (a + 2) = some (zAr 0 246 A)) (hU : h (a + 4) = some (zAr 0 1968 U)) (hP : zPs U P c) (hc : c ≤ 8) (hI : IG B g) (hB2 : B + 20 < 2 ^ 20) : zC Γ l d mM_startSegment [.ref a] (z2 h a (zAr 0 246 (g)) (zMo a s3 (nI c) s6 s7 s8 s10 s12 s16 s17 s18 s19 s20)) n 0 0 (fun o h1 n1 => o = .inl (some (.int (zma (zdo g 6 (nI 0) (nI 0))))) ∧ n1 = n ∧ ∃ U', h1 = (z2 (zu (zu h (a + 2) (zAr 0 246 g)) (a + 4) (zAr 0 1968 U')) a (zAr 0 246 ((zdo g 6 (nI 0) (nI 0)).2.2)) (zMo a s3 (nI (zkc (zdo g 6 (nI 0) (nI 0)).1 c)) s6 s7 (nI (zdo g 6 (nI 0) (nI 0)).1) s10 s12 s16 s17 s18 s19 s20)) ∧ zPs U' (zkP (zdo g 6 (nI 0) (nI 0)).1 P c g) (zkc (zdo g 6 (nI 0) (nI 0)).1 c)) := by
  have hB : B < 2 ^ 20 := by omega
  have hlim := (zdo_lim (g := g) (k := 6) (by decide) (nI 0) (nI 0)).1
  have h4 := zEs_4 6 (by decide)
  have eo : zopSeg g = zdo g 6 (nI 0) (nI 0) := rfl
  refine zC_of (ls := [some (.ref a)]) hl (by decide +kernel) rfl (Nat.le_of_ble_eq_true rfl) rfl ?_
  refine zs_aload_n (pc := 0) dM_startSegment_0 rfl ?_
  refine zcV0_0 (pc := 1) (d2 := d - 1) (s_M_starts hl hA) dM_startSegment_1 kM_93 mdM_starts miM_starts mvM_starts rfl (by exact z2_a) rfl (Nat.le_of_ble_eq_true rfl) (by omega) (by omega) (by omega) ?_
  refine zs_aload_n (pc := 4) dM_startSegment_4 rfl ?_
  refine zs_aload_n (pc := 5) dM_startSegment_5 rfl ?_
  refine zcV1_0 (pc := 6) (d2 := d - 1) (s_M_segmentIt hl (by omega) hI hB) dM_startSegment_6 kM_136 mdM_segmentIt miM_segmentIt mvM_segmentIt rfl (by exact z2_a) rfl (Nat.le_of_ble_eq_true rfl) (by omega) (by omega) (by omega) ?_
  rw [eo]
  generalize zdo g 6 (nI 0) (nI 0) = op at hlim ⊢
  rw [zmth_0]
  refine zcVQ_1 (pc := 9) (d2 := d - 1) (s_M_changed (G := g) hl zu_s (by rw [zu_n (by omega)]; exact hU) hP hc (e := op.1) (by omega)) dM_startSegment_9 kM_99 mdM_changed miM_changed mvM_changed rfl (by exact z2_a) rfl (Nat.le_of_ble_eq_true rfl) (by omega) (by omega) (by omega) (fun v h1 n1 hq => ?_) (fun E h1 n1 hq => absurd hq.1 (by intro q; cases q))
  obtain ⟨hv9, rfl, U2, rfl, hP2⟩ := hq
  obtain rfl := Sum.inl.inj hv9
  exact zs_iret (pc := 12) dM_startSegment_12 rfl rfl (by omega) (by omega) (⟨rfl, rfl, U2, rfl, hP2⟩)
theorem s_M_joinSegments {Γ : zG} {l : Launch} (hl : l.stackTraces = false) {d : Nat} (hd : 6 ≤ d) {h : zH} {n a : Nat} {g : Nat → Nat} {s3 s6 s7 s8 s10 s12 s16 s17 s18 s19 s20 : Int32} {U A : Nat → Nat} {P : Nat → Nat → Nat} {c B : Nat} (hA : h (a + 2) = some (zAr 0 246 A)) (hU : h (a + 4) = some (zAr 0 1968 U)) (hP : zPs U P c) (hc : c ≤ 8) (hI : IG B g) (hB2 : B + 20 < 2 ^ 20) (y : Int32) : zC Γ l d mM_joinSegments [.ref a, .int y] (z2 h a (zAr 0 246 (g)) (zMo a s3 (nI c) s6 s7 s8 s10 s12 s16 s17 s18 s19 s20)) n 0 0 (fun o h1 n1 => o = .inl (some (.int (zma (zdo g 7 y (nI 0))))) ∧ n1 = n ∧ ∃ U', h1 = (z2 (zu (zu h (a + 2) (zAr 0 246 g)) (a + 4) (zAr 0 1968 U')) a (zAr 0 246 ((zdo g 7 y (nI 0)).2.2)) (zMo a s3 (nI (zkc (zdo g 7 y (nI 0)).1 c)) s6 s7 (nI (zdo g 7 y (nI 0)).1) s10 s12 s16 s17 s18 s19 s20)) ∧ zPs U' (zkP (zdo g 7 y (nI 0)).1 P c g) (zkc (zdo g 7 y (nI 0)).1 c)) := by
  have hB : B < 2 ^ 20 := by omega
  have hlim := (zdo_lim (g := g) (k := 7) (by decide) y (nI 0)).1
  have h4 := zEs_4 7 (by decide)
  have eo : zopJoin g y = zdo g 7 y (nI 0) := rfl
  refine zC_of (ls := [some (.ref a), some (.int y)]) hl (by decide +kernel) rfl (Nat.le_of_ble_eq_true rfl) rfl ?_
  refine zs_aload_n (pc := 0) dM_joinSegments_0 rfl ?_
  refine zcV0_0 (pc := 1) (d2 := d - 1) (s_M_starts hl hA) dM_joinSegments_1 kM_93 mdM_starts miM_starts mvM_starts rfl (by exact z2_a) rfl (Nat.le_of_ble_eq_true rfl) (by omega) (by omega) (by omega) ?_
  refine zs_aload_n (pc := 4) dM_joinSegments_4 rfl ?_
  refine zs_aload_n (pc := 5) dM_joinSegments_5 rfl ?_
  refine zs_iload_n (pc := 6) dM_joinSegments_6 rfl ?_
  refine zcV1_1 (pc := 7) (d2 := d - 1) (s_M_joinIt hl (by omega) hI hB y) dM_joinSegments_7 kM_140 mdM_joinIt miM_joinIt mvM_joinIt rfl (by exact z2_a) rfl (Nat.le_of_ble_eq_true rfl) (by omega) (by omega) (by omega) ?_
  rw [eo]
  generalize zdo g 7 y (nI 0) = op at hlim ⊢
  rw [zmth_0]
  refine zcVQ_1 (pc := 10) (d2 := d - 1) (s_M_changed (G := g) hl zu_s (by rw [zu_n (by omega)]; exact hU) hP hc (e := op.1) (by omega)) dM_joinSegments_10 kM_99 mdM_changed miM_changed mvM_changed rfl (by exact z2_a) rfl (Nat.le_of_ble_eq_true rfl) (by omega) (by omega) (by omega) (fun v h1 n1 hq => ?_) (fun E h1 n1 hq => absurd hq.1 (by intro q; cases q))
  obtain ⟨hv9, rfl, U2, rfl, hP2⟩ := hq
  obtain rfl := Sum.inl.inj hv9
  exact zs_iret (pc := 13) dM_joinSegments_13 rfl rfl (by omega) (by omega) (⟨rfl, rfl, U2, rfl, hP2⟩)
theorem s_M_search {Γ : zG} {l : Launch} (hl : l.stackTraces = false) {d : Nat} (hd : 6 ≤ d) {h : zH} {n a : Nat} {g : Nat → Nat} {s3 s6 s7 s8 s10 s12 s16 s17 s18 s19 s20 : Int32} {U A : Nat → Nat} {P : Nat → Nat → Nat} {c B : Nat} (hA : h (a + 2) = some (zAr 0 246 A)) (hU : h (a + 4) = some (zAr 0 1968 U)) (hP : zPs U P c) (hc : c ≤ 8) (hI : IG B g) (hB2 : B + 20 < 2 ^ 20) (y z : Int32) : zC Γ l d mM_search [.ref a, .int y, .int z] (z2 h a (zAr 0 246 (g)) (zMo a s3 (nI c) s6 s7 s8 s10 s12 s16 s17 s18 s19 s20)) n 0 0 (fun o h1 n1 => o = .inl (some (.int (zma (zdo g 8 y z)))) ∧ n1 = n ∧ ∃ U', h1 = (z2 (zu (zu h (a + 2) (zAr 0 246 g)) (a + 4) (zAr 0 1968 U')) a (zAr 0 246 ((zdo g 8 y z).2.2)) (zMo a s3 (nI (zkc (zdo g 8 y z).1 c)) s6 s7 (nI (zdo g 8 y z).1) s10 s12 s16 s17 s18 s19 s20)) ∧ zPs U' (zkP (zdo g 8 y z).1 P c g) (zkc (zdo g 8 y z).1 c)) := by
  have hB : B < 2 ^ 20 := by omega
  have hlim := (zdo_lim (g := g) (k := 8) (by decide) y z).1
  have h4 := zEs_4 8 (by decide)
  have eo : zopFind g y z = zdo g 8 y z := rfl
  refine zC_of (ls := [some (.ref a), some (.int y), some (.int z)]) hl (by decide +kernel) rfl (Nat.le_of_ble_eq_true rfl) rfl ?_
  refine zs_aload_n (pc := 0) dM_search_0 rfl ?_
  refine zcV0_0 (pc := 1) (d2 := d - 1) (s_M_starts hl hA) dM_search_1 kM_93 mdM_starts miM_starts mvM_starts rfl (by exact z2_a) rfl (Nat.le_of_ble_eq_true rfl) (by omega) (by omega) (by omega) ?_
  refine zs_aload_n (pc := 4) dM_search_4 rfl ?_
  refine zs_aload_n (pc := 5) dM_search_5 rfl ?_
  refine zs_iload_n (pc := 6) dM_search_6 rfl ?_
  refine zs_iload_n (pc := 7) dM_search_7 rfl ?_
  refine zcV1_2 (pc := 8) (d2 := d - 1) (s_M_searchIt hl (by omega) hI hB y z) dM_search_8 kM_146 mdM_searchIt miM_searchIt mvM_searchIt rfl (by exact z2_a) rfl (Nat.le_of_ble_eq_true rfl) (by omega) (by omega) (by omega) ?_
  rw [eo]
  generalize zdo g 8 y z = op at hlim ⊢
  rw [zmth_0]
  refine zcVQ_1 (pc := 11) (d2 := d - 1) (s_M_changed (G := g) hl zu_s (by rw [zu_n (by omega)]; exact hU) hP hc (e := op.1) (by omega)) dM_search_11 kM_99 mdM_changed miM_changed mvM_changed rfl (by exact z2_a) rfl (Nat.le_of_ble_eq_true rfl) (by omega) (by omega) (by omega) (fun v h1 n1 hq => ?_) (fun E h1 n1 hq => absurd hq.1 (by intro q; cases q))
  obtain ⟨hv9, rfl, U2, rfl, hP2⟩ := hq
  obtain rfl := Sum.inl.inj hv9
  exact zs_iret (pc := 14) dM_search_14 rfl rfl (by omega) (by omega) (⟨rfl, rfl, U2, rfl, hP2⟩)
theorem s_M_pass {Γ : zG} {l : Launch} (hl : l.stackTraces = false) {d : Nat} (hd : 6 ≤ d) {h : zH} {n a : Nat} {g : Nat → Nat} {s3 s6 s7 s8 s10 s12 s16 s17 s18 s19 s20 : Int32} {U A : Nat → Nat} {P : Nat → Nat → Nat} {c B : Nat} (hA : h (a + 2) = some (zAr 0 246 A)) (hU : h (a + 4) = some (zAr 0 1968 U)) (hP : zPs U P c) (hc : c ≤ 8) (hI : IG B g) (hB2 : B + 20 < 2 ^ 20) (y : Int32) : zC Γ l d mM_pass [.ref a, .int y] (z2 h a (zAr 0 246 (g)) (zMo a s3 (nI c) s6 s7 s8 s10 s12 s16 s17 s18 s19 s20)) n 0 0 (fun o h1 n1 => o = .inl (some (.int (zma (zdo g 9 y (nI 0))))) ∧ n1 = n ∧ ∃ U', h1 = (z2 (zu (zu h (a + 2) (zAr 0 246 g)) (a + 4) (zAr 0 1968 U')) a (zAr 0 246 ((zdo g 9 y (nI 0)).2.2)) (zMo a s3 (nI (zkc (zdo g 9 y (nI 0)).1 c)) s6 s7 (nI (zdo g 9 y (nI 0)).1) s10 s12 s16 s17 s18 s19 s20)) ∧ zPs U' (zkP (zdo g 9 y (nI 0)).1 P c g) (zkc (zdo g 9 y (nI 0)).1 c)) := by
  have hB : B < 2 ^ 20 := by omega
  have hlim := (zdo_lim (g := g) (k := 9) (by decide) y (nI 0)).1
  have h4 := zEs_4 9 (by decide)
  have eo : zopPass g y = zdo g 9 y (nI 0) := rfl
  refine zC_of (ls := [some (.ref a), some (.int y)]) hl (by decide +kernel) rfl (Nat.le_of_ble_eq_true rfl) rfl ?_
  refine zs_aload_n (pc := 0) dM_pass_0 rfl ?_
  refine zcV0_0 (pc := 1) (d2 := d - 1) (s_M_starts hl hA) dM_pass_1 kM_93 mdM_starts miM_starts mvM_starts rfl (by exact z2_a) rfl (Nat.le_of_ble_eq_true rfl) (by omega) (by omega) (by omega) ?_
  refine zs_aload_n (pc := 4) dM_pass_4 rfl ?_
  refine zs_aload_n (pc := 5) dM_pass_5 rfl ?_
  refine zs_iload_n (pc := 6) dM_pass_6 rfl ?_
  refine zcV1_1 (pc := 7) (d2 := d - 1) (s_M_passIt hl (by omega) hI hB2 y) dM_pass_7 kM_151 mdM_passIt miM_passIt mvM_passIt rfl (by exact z2_a) rfl (Nat.le_of_ble_eq_true rfl) (by omega) (by omega) (by omega) ?_
  rw [eo]
  generalize zdo g 9 y (nI 0) = op at hlim ⊢
  rw [zmth_0]
  refine zcVQ_1 (pc := 10) (d2 := d - 1) (s_M_changed (G := g) hl zu_s (by rw [zu_n (by omega)]; exact hU) hP hc (e := op.1) (by omega)) dM_pass_10 kM_99 mdM_changed miM_changed mvM_changed rfl (by exact z2_a) rfl (Nat.le_of_ble_eq_true rfl) (by omega) (by omega) (by omega) (fun v h1 n1 hq => ?_) (fun E h1 n1 hq => absurd hq.1 (by intro q; cases q))
  obtain ⟨hv9, rfl, U2, rfl, hP2⟩ := hq
  obtain rfl := Sum.inl.inj hv9
  exact zs_iret (pc := 13) dM_pass_13 rfl rfl (by omega) (by omega) (⟨rfl, rfl, U2, rfl, hP2⟩)

