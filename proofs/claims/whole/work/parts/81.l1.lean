/-! the law: what holds between two steps -/
theorem zcX_2 {Γ : zG} {l : Launch} {M : zM} {d mc ms : Nat} {FN : List Frame → Array Value → State → State → Prop} {pc : Nat} {ls : List (Option Value)} {rest : List Value} {h : zH} {n k ks : Nat} {M2 : zM} {d2 idx : Nat} {a1 a2 : Value} {mc2 ms2 : Nat} {Q2 : zQ} (hC : zC Γ l d2 M2 [a1, a2] h n mc2 ms2 Q2) (hd : decode (zby M) pc = .ok (.invokestatic idx, 3)) (hlk : Cond.methodLink (zy M).cls idx (zy M2) ∈ lw_tbl) (hm : zMd M2 2) (hi : zMs M2) (hxt2 : zxt M2 ≠ []) (hw : (rest.map fun v => v.category).sum ≤ 8) (hdd : d2 + 1 ≤ d) (hk : k + mc2 ≤ mc) (hks : ks + ms2 ≤ ms) (kk : ∀ (v : Option Value) (h1 : zH) (n1 : Nat), Q2 (.inl v) h1 n1 → Z Γ l M d mc ms FN (pc + 3) ls (v.toList ++ rest) h1 n1 (k + mc2) (ks + ms2)) (kx : ∀ (E : String) (h1 : zH) (n1 : Nat), Q2 (.inr E) h1 n1 → zX Γ l M d mc ms FN pc ls E h1 n1 (k + mc2) (ks + ms2)) : Z Γ l M d mc ms FN pc ls (a2 :: a1 :: rest) h n k ks :=
  zs_callSX M2 (As := [a1, a2]) (rest := rest) (mc2 := mc2) (ms2 := ms2) Q2 hd hlk hm hi hxt2 rfl rfl hw hdd hk hks hC kk kx
theorem zcX_3 {Γ : zG} {l : Launch} {M : zM} {d mc ms : Nat} {FN : List Frame → Array Value → State → State → Prop} {pc : Nat} {ls : List (Option Value)} {rest : List Value} {h : zH} {n k ks : Nat} {M2 : zM} {d2 idx : Nat} {a1 a2 a3 : Value} {mc2 ms2 : Nat} {Q2 : zQ} (hC : zC Γ l d2 M2 [a1, a2, a3] h n mc2 ms2 Q2) (hd : decode (zby M) pc = .ok (.invokestatic idx, 3)) (hlk : Cond.methodLink (zy M).cls idx (zy M2) ∈ lw_tbl) (hm : zMd M2 3) (hi : zMs M2) (hxt2 : zxt M2 ≠ []) (hw : (rest.map fun v => v.category).sum ≤ 8) (hdd : d2 + 1 ≤ d) (hk : k + mc2 ≤ mc) (hks : ks + ms2 ≤ ms) (kk : ∀ (v : Option Value) (h1 : zH) (n1 : Nat), Q2 (.inl v) h1 n1 → Z Γ l M d mc ms FN (pc + 3) ls (v.toList ++ rest) h1 n1 (k + mc2) (ks + ms2)) (kx : ∀ (E : String) (h1 : zH) (n1 : Nat), Q2 (.inr E) h1 n1 → zX Γ l M d mc ms FN pc ls E h1 n1 (k + mc2) (ks + ms2)) : Z Γ l M d mc ms FN pc ls (a3 :: a2 :: a1 :: rest) h n k ks :=
  zs_callSX M2 (As := [a1, a2, a3]) (rest := rest) (mc2 := mc2) (ms2 := ms2) Q2 hd hlk hm hi hxt2 rfl rfl hw hdd hk hks hC kk kx
theorem zcX_4 {Γ : zG} {l : Launch} {M : zM} {d mc ms : Nat} {FN : List Frame → Array Value → State → State → Prop} {pc : Nat} {ls : List (Option Value)} {rest : List Value} {h : zH} {n k ks : Nat} {M2 : zM} {d2 idx : Nat} {a1 a2 a3 a4 : Value} {mc2 ms2 : Nat} {Q2 : zQ} (hC : zC Γ l d2 M2 [a1, a2, a3, a4] h n mc2 ms2 Q2) (hd : decode (zby M) pc = .ok (.invokestatic idx, 3)) (hlk : Cond.methodLink (zy M).cls idx (zy M2) ∈ lw_tbl) (hm : zMd M2 4) (hi : zMs M2) (hxt2 : zxt M2 ≠ []) (hw : (rest.map fun v => v.category).sum ≤ 8) (hdd : d2 + 1 ≤ d) (hk : k + mc2 ≤ mc) (hks : ks + ms2 ≤ ms) (kk : ∀ (v : Option Value) (h1 : zH) (n1 : Nat), Q2 (.inl v) h1 n1 → Z Γ l M d mc ms FN (pc + 3) ls (v.toList ++ rest) h1 n1 (k + mc2) (ks + ms2)) (kx : ∀ (E : String) (h1 : zH) (n1 : Nat), Q2 (.inr E) h1 n1 → zX Γ l M d mc ms FN pc ls E h1 n1 (k + mc2) (ks + ms2)) : Z Γ l M d mc ms FN pc ls (a4 :: a3 :: a2 :: a1 :: rest) h n k ks :=
  zs_callSX M2 (As := [a1, a2, a3, a4]) (rest := rest) (mc2 := mc2) (ms2 := ms2) Q2 hd hlk hm hi hxt2 rfl rfl hw hdd hk hks hC kk kx
theorem zcX_5 {Γ : zG} {l : Launch} {M : zM} {d mc ms : Nat} {FN : List Frame → Array Value → State → State → Prop} {pc : Nat} {ls : List (Option Value)} {rest : List Value} {h : zH} {n k ks : Nat} {M2 : zM} {d2 idx : Nat} {a1 a2 a3 a4 a5 : Value} {mc2 ms2 : Nat} {Q2 : zQ} (hC : zC Γ l d2 M2 [a1, a2, a3, a4, a5] h n mc2 ms2 Q2) (hd : decode (zby M) pc = .ok (.invokestatic idx, 3)) (hlk : Cond.methodLink (zy M).cls idx (zy M2) ∈ lw_tbl) (hm : zMd M2 5) (hi : zMs M2) (hxt2 : zxt M2 ≠ []) (hw : (rest.map fun v => v.category).sum ≤ 8) (hdd : d2 + 1 ≤ d) (hk : k + mc2 ≤ mc) (hks : ks + ms2 ≤ ms) (kk : ∀ (v : Option Value) (h1 : zH) (n1 : Nat), Q2 (.inl v) h1 n1 → Z Γ l M d mc ms FN (pc + 3) ls (v.toList ++ rest) h1 n1 (k + mc2) (ks + ms2)) (kx : ∀ (E : String) (h1 : zH) (n1 : Nat), Q2 (.inr E) h1 n1 → zX Γ l M d mc ms FN pc ls E h1 n1 (k + mc2) (ks + ms2)) : Z Γ l M d mc ms FN pc ls (a5 :: a4 :: a3 :: a2 :: a1 :: rest) h n k ks :=
  zs_callSX M2 (As := [a1, a2, a3, a4, a5]) (rest := rest) (mc2 := mc2) (ms2 := ms2) Q2 hd hlk hm hi hxt2 rfl rfl hw hdd hk hks hC kk kx
theorem lg_same {v : Int64} : lg_cmp v v = 0 := by
  unfold lg_cmp
  rw [if_neg (fun q => Int64.lt_irrefl q), if_pos rfl]
/-! the line's letters -/
theorem ydl_c {m : Nat} : ∀ n, ∀ c, c ∈ ydl m n → c < 128 := by
  intro n
  induction n with
  | zero => intro c hc; cases hc
  | succ n ih =>
    intro c hc
    rcases List.mem_cons.mp hc with rfl | hc
    · have := Nat.mod_lt (m / 10 ^ n) (by decide : 10 > 0)
      omega
    · exact ih c hc
theorem znum_c {b : Bool} {m : Nat} : ∀ c, c ∈ znum b m → c < 128 := by
  intro c hc
  unfold znum at hc
  rcases List.mem_append.mp hc with hc | hc
  · cases b
    · cases hc
    · rcases List.mem_cons.mp hc with rfl | hc
      · decide
      · cases hc
  · exact ydl_c _ c hc
theorem z1_c {k : Nat} (hk : k < 128) : ∀ c, c ∈ [k] → c < 128 := by
  intro c hc
  rcases List.mem_cons.mp hc with rfl | hc
  · exact hk
  · cases hc
theorem zap_c {A B : List Nat} (hA : ∀ c, c ∈ A → c < 128) (hB : ∀ c, c ∈ B → c < 128) : ∀ c, c ∈ A ++ B → c < 128 := fun c hc => (List.mem_append.mp hc).elim (hA c) (hB c)
theorem zfl_c {g : Nat → Nat} {dn v : Nat} : ∀ r, ∀ c, c ∈ zfl g dn v r → c < 128 := by
  intro r
  induction r with
  | zero => intro c hc; cases hc
  | succ r ih =>
    refine zap_c (zap_c (zap_c (zap_c ih ?_) znum_c) (z1_c (by decide))) znum_c
    by_cases e : r = 0
    · rw [if_pos e]; intro c hc; cases hc
    · rw [if_neg e]; exact z1_c (by decide)
theorem zfe0_c {q : Nat → Nat} : ∀ c, c ∈ zfe0 q → c < 128 := by
  unfold zfe0
  exact zap_c (zap_c (zap_c (zap_c (zap_c (zap_c (zap_c (zap_c (zap_c (zap_c (zap_c (zap_c (zap_c (zap_c (fun c hc => by cases hc) (z1_c (by decide))) (ydl_c _)) (z1_c (by decide))) (z1_c (by decide))) (ydl_c _)) (z1_c (by decide))) (z1_c (by decide))) (ydl_c _)) (z1_c (by decide))) (z1_c (by decide))) (ydl_c _)) (z1_c (by decide))) (z1_c (by decide))) (ydl_c _)
theorem zcd_c {k : Nat} (hk : k < 1000) : ∀ c, c ∈ zcd k → c < 128 := by
  intro c hc
  unfold zcd at hc
  rcases List.mem_cons.mp hc with rfl | hc
  · omega
  · rcases List.mem_cons.mp hc with rfl | hc
    · omega
    · rcases List.mem_cons.mp hc with rfl | hc
      · omega
      · cases hc
theorem zfe_c {q : Nat → Nat} (hb : zEb q) : ∀ j, j ≤ q 5 → ∀ c, c ∈ zfe q j → c < 128 := by
  intro j
  induction j with
  | zero => exact fun _ => zfe0_c
  | succ j ih => exact fun h => zap_c (zap_c (ih (by omega)) (z1_c (by decide))) (zcd_c (hb.2.2.2.2.2.2 j (by omega)))
def zLb (L : List Nat) : Prop := L.length ≤ 480 ∧ ∀ c, c ∈ L → c < 128
theorem zLe_b {B : Nat} {g : Nat → Nat} {y : Int32} {L : List Nat} (hI : IG B g) (hB : B < 2 ^ 20) (hL : zLb L) : zLb (zLe g y L) := by
  unfold zLe
  cases hH : zHas g y with
  | true =>
    rw [if_pos rfl]
    have hb := hI.b hB (zHas_y hH).1
    have h5 := hb.2.2.2.2.2.1
    have hl := zfe_len hb (eg g (zAt g y) 5)
    exact ⟨by omega, zfe_c hb _ (Nat.le_refl _)⟩
  | false =>
    rw [if_neg (by decide)]
    exact hL
theorem zLr_b {B : Nat} {g : Nat → Nat} {y z : Int32} {L : List Nat} (hI : IG B g) (hB : B < 2 ^ 20) (hL : zLb L) : zLb (zLr g y z L) := by
  unfold zLr
  cases hv : zPv y z with
  | true =>
    rw [if_pos rfl]
    have h1 := zfl_len (dn := y.toInt.toNat) (v := z.toInt.toNat) hI hB (zres g y.toInt.toNat z.toInt.toNat) (fun j hj => (zrkAt_y hj).1)
    have h2 := zres_le (g := g) (dn := y.toInt.toNat) (v := z.toInt.toNat)
    have h3 := hI.1
    exact ⟨by omega, zfl_c _⟩
  | false =>
    rw [if_neg (by decide)]
    exact hL
theorem zrunO_b {g T : Nat → Nat} {np : Nat} {er fl : Option Nat} (hn : np ≤ 60) (he : ∀ p, er = some p → p < 2 ^ 20) (hf : ∀ p, fl = some p → p < 2 ^ 20) : (zrunO g T np er fl).1.1 < 3 ∧ (∀ p, (zrunO g T np er fl).2.2.1 = some p → p < 2 ^ 20) ∧ (∀ p, (zrunO g T np er fl).2.2.2 = some p → p < 2 ^ 20) := by
  obtain ⟨r1, r2, r3⟩ := zps_ok (T := T) (n := np) 15 0 [] (Nat.zero_le _) (fun x hx => by cases hx)
  rcases h1 : zps T np 15 0 [] with ⟨p1, A⟩
  rw [h1] at r1 r2 r3
  have r4 : A.length ≤ 15 := r3
  cases p1 with
  | some p =>
    rw [zrunO_p h1]
    have hp := r1 p rfl
    exact ⟨Nat.le_of_ble_eq_true rfl, fun q e => by obtain rfl := Option.some.inj e; omega, hf⟩
  | none =>
    rcases h2 : zex A 0 g with ⟨p2, g2⟩
    cases p2 with
    | some i =>
      rw [zrunO_f h1 h2]
      have hi := zex_lt A 0 g i (by rw [h2])
      exact ⟨Nat.le_of_ble_eq_true rfl, he, fun q e => by obtain rfl := Option.some.inj e; omega⟩
    | none =>
      rw [zrunO_k h1 h2]
      exact ⟨Nat.le_of_ble_eq_true rfl, he, hf⟩
theorem zkc_b {e c : Nat} (h : c ≤ 8) : zkc e c ≤ 8 := by
  unfold zkc
  split <;> omega
/-! the two sides -/
def MS (h : zH) (a : Nat) (P : Nat → Nat → Nat) (c : Nat) (sv : Option (Nat → Nat)) (T : Nat → Nat) (L : List Nat) : Prop := (∃ A, h (a + 2) = some (zAr 0 246 A)) ∧ (∃ S, h (a + 3) = some (zAr 0 246 S) ∧ ∀ s, sv = some s → ∀ j, j < 246 → S j = s j) ∧ (∃ U, h (a + 4) = some (zAr 0 1968 U) ∧ zPs U P c) ∧ h (a + 5) = some (zAr 0 60 T) ∧ ML h a L ∧ h (a + 7) = some (zAr 1 56 zLt) ∧ h (a + 8) = some (zAr 0 11 zBg) ∧ ∃ C, h (a + 9) = some (zAr 0 183 C)
theorem MS.sm {h h1 : zH} {a c : Nat} {P : Nat → Nat → Nat} {sv : Option (Nat → Nat)} {T : Nat → Nat} {L : List Nat} (hM : MS h a P c sv T L) (hk : ∀ q, a + 2 ≤ q → q < a + 10 → h1 q = h q) : MS h1 a P c sv T L := by
  obtain ⟨⟨A, m2⟩, ⟨S, m3, mS⟩, ⟨U, m4, mP⟩, m5, ⟨u, m6, m6t⟩, m7, m8, ⟨C, m9⟩⟩ := hM
  exact ⟨⟨A, by rw [hk _ (by omega) (by omega)]; exact m2⟩, ⟨S, by rw [hk _ (by omega) (by omega)]; exact m3, mS⟩, ⟨U, by rw [hk _ (by omega) (by omega)]; exact m4, mP⟩, by rw [hk _ (by omega) (by omega)]; exact m5, ⟨u, by rw [hk _ (by omega) (by omega)]; exact m6, m6t⟩, by rw [hk _ (by omega) (by omega)]; exact m7, by rw [hk _ (by omega) (by omega)]; exact m8, ⟨C, by rw [hk _ (by omega) (by omega)]; exact m9⟩⟩
def zLI (x a r t : Nat) (B : Nat) (h : zH) : Prop := ∃ (g : Nat → Nat) (P : Nat → Nat → Nat) (c : Nat) (sv : Option (Nat → Nat)) (er fl : Option Nat) (T : Nat → Nat) (np : Nat) (L : List Nat) (f0 : Nat → Int64) (f1 : Nat → UInt64) (s8 s16 s17 s18 s19 s20 : Int32), XR B h x g P c sv er fl T np L ∧ h a = some (zMo a (nI (zb sv.isSome)) (nI c) (zer er) (zer fl) s8 (nI np) (nI L.length) s16 s17 s18 s19 s20) ∧ h (a + 1) = some (zAr 0 246 g) ∧ MS h a P c sv T L ∧ h r = some (.inl (4, 1, .inr (.inl f0))) ∧ h t = some (.inl (5, 1, .inr (.inr (.inr (.inl f1))))) ∧ c ≤ 8 ∧ zLb L ∧ (∀ p, er = some p → p < 2 ^ 20) ∧ (∀ p, fl = some p → p < 2 ^ 20)
/-- a step's end: what X left at h1, what the model left -/
theorem zLI_mk {x a r t B : Nat} {h1 hb : zH} {g : Nat → Nat} {P : Nat → Nat → Nat} {c : Nat} {sv : Option (Nat → Nat)} {er fl : Option Nat} {T : Nat → Nat} {np : Nat} {L : List Nat} {f0 : Nat → Int64} {f1 : Nat → UInt64} {s8 s16 s17 s18 s19 s20 : Int32} (ha : a = x + 481) (hr : r = a + 10) (ht : t = a + 11) (hX : XR B h1 x g P c sv er fl T np L) (hb0 : ∀ q, (q < a ∨ a + 10 ≤ q) → hb q = h1 q) (hM : MS hb a P c sv T L) (h3 : h1 r = some (.inl (4, 1, .inr (.inl f0)))) (h4 : h1 t = some (.inl (5, 1, .inr (.inr (.inr (.inl f1)))))) (hc : c ≤ 8) (hL : zLb L) (he : ∀ p, er = some p → p < 2 ^ 20) (hf : ∀ p, fl = some p → p < 2 ^ 20) : zLI x a r t B (z2 hb a (zAr 0 246 g) (zMo a (nI (zb sv.isSome)) (nI c) (zer er) (zer fl) s8 (nI np) (nI L.length) s16 s17 s18 s19 s20)) := by
  subst ha
  subst hr
  subst ht
  refine ⟨g, P, c, sv, er, fl, T, np, L, f0, f1, s8, s16, s17, s18, s19, s20, XR.sm hX (fun q q1 q2 => ?_), z2_a, z2_1, MS.sm hM (fun q q1 q2 => z2_n (by omega) (by omega)), ?_, ?_, hc, hL, he, hf⟩
  · rw [z2_n (by omega) (by omega)]
    exact hb0 q (by omega)
  · rw [z2_n (by omega) (by omega), hb0 _ (by omega)]
    exact h3
  · rw [z2_n (by omega) (by omega), hb0 _ (by omega)]
    exact h4

