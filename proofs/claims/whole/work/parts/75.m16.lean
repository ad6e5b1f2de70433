/-! the model's parser: words -/
def zmwords : List (List Nat) := [[101, 110, 116, 114, 121, 32], [99, 111, 100, 101, 32], [117, 110, 99, 111, 100, 101, 32], [100, 114, 111, 112, 32], [116, 111, 117, 99, 104, 32], [109, 101, 114, 103, 101, 32], [115, 101, 103, 109, 101, 110, 116], [106, 111, 105, 110, 32], [102, 105, 110, 100], [100, 97, 121, 115, 32]]
def zLt : Nat → Nat := fun i => zmwords.flatten.getD i 0
def zBg : Nat → Nat := fun i => ([0, 6, 11, 18, 23, 29, 35, 42, 47, 51, 56] : List Nat).getD i 0
def yml (i : Nat) : Nat := (zmwords.getD i []).length
def ymc (i x : Nat) : Nat := (zmwords.getD i []).getD x 0
def ysp (i : Nat) : Bool := !(i == 6 || i == 8)
theorem zBg_ok : ∀ i, i < 10 → zBg (i + 1) - zBg i = yml i ∧ zBg i ≤ zBg (i + 1) ∧ zBg (i + 1) ≤ 56 ∧ yml i = zwl i + (if ysp i = true then 1 else 0) := by decide
theorem zLt_ok : ∀ i, i < 10 → ∀ x, x < yml i → zLt (zBg i + x) = ymc i x ∧ ymc i x < 128 := by decide +kernel
theorem ymc_w : ∀ i, i < 10 → ∀ x, x < zwl i → ymc i x = zwc i x := by decide +kernel
theorem ymc_s : ∀ i, i < 10 → ysp i = true → ymc i (zwl i) = 32 := by decide +kernel
/-- no word begins another one's -/
theorem ynpfx : ∀ i, i < 10 → ∀ j, j < 10 → j ≠ i → ∃ x, x < zwl i ∧ (yml j ≤ x ∨ ymc j x ≠ zwc i x) := by decide +kernel
def yml_le : ∀ i, i < 10 → yml i ≤ 7 := by decide
def ylk (T : Nat → Nat) (n po i : Nat) : Nat → Nat → Nat
  | 0, m => m
  | k + 1, m => if m < yml i ∧ po + m < n ∧ T (po + m) = ymc i m then ylk T n po i k (m + 1) else m
def ylike (T : Nat → Nat) (n po i : Nat) : Nat := ylk T n po i (yml i) 0
theorem ylk_sp {T : Nat → Nat} {n po i : Nat} : ∀ k m, m + k = yml i → (∀ x, x < m → po + x < n ∧ T (po + x) = ymc i x) → ylk T n po i k m ≤ yml i ∧ (∀ x, x < ylk T n po i k m → po + x < n ∧ T (po + x) = ymc i x) ∧ (ylk T n po i k m < yml i → ¬ (po + ylk T n po i k m < n ∧ T (po + ylk T n po i k m) = ymc i (ylk T n po i k m))) := by
  intro k
  induction k with
  | zero => intro m hm h; exact ⟨by show m ≤ _; omega, h, fun q => absurd q (by show ¬ m < yml i; omega)⟩
  | succ k ih =>
    intro m hm h
    unfold ylk
    by_cases e : m < yml i ∧ po + m < n ∧ T (po + m) = ymc i m
    · rw [if_pos e]
      exact ih (m + 1) (by omega) (fun x hx => by
        by_cases e2 : x = m
        · subst e2; exact e.2
        · exact h x (by omega))
    · rw [if_neg e]
      exact ⟨by omega, h, fun q q2 => e ⟨q, q2⟩⟩
theorem zlk_sp {T : Nat → Nat} {n po i : Nat} : ∀ k m, m + k = zwl i → (∀ x, x < m → po + x < n ∧ T (po + x) = zwc i x) → zlk T n po i k m ≤ zwl i ∧ (∀ x, x < zlk T n po i k m → po + x < n ∧ T (po + x) = zwc i x) ∧ (zlk T n po i k m < zwl i → ¬ (po + zlk T n po i k m < n ∧ T (po + zlk T n po i k m) = zwc i (zlk T n po i k m))) := by
  intro k
  induction k with
  | zero => intro m hm h; exact ⟨by show m ≤ _; omega, h, fun q => absurd q (by show ¬ m < zwl i; omega)⟩
  | succ k ih =>
    intro m hm h
    unfold zlk
    by_cases e : m < zwl i ∧ po + m < n ∧ zwc i m = T (po + m)
    · rw [if_pos e]
      exact ih (m + 1) (by omega) (fun x hx => by
        by_cases e2 : x = m
        · subst e2; exact ⟨e.2.1, e.2.2.symm⟩
        · exact h x (by omega))
    · rw [if_neg e]
      exact ⟨by omega, h, fun q q2 => e ⟨q, q2.1, q2.2.symm⟩⟩
theorem ylike_z {T : Nat → Nat} {n po i : Nat} (hi : i < 10) : (zlike T n po i < zwl i → ylike T n po i = zlike T n po i) ∧ (zlike T n po i = zwl i → ylike T n po i = zwl i + (if ysp i = true ∧ po + zwl i < n ∧ T (po + zwl i) = 32 then 1 else 0)) := by
  obtain ⟨a1, a2, a3⟩ := ylk_sp (T := T) (n := n) (po := po) (i := i) (yml i) 0 (by omega) (fun x hx => absurd hx (by omega))
  obtain ⟨b1, b2, b3⟩ := zlk_sp (T := T) (n := n) (po := po) (i := i) (zwl i) 0 (by omega) (fun x hx => absurd hx (by omega))
  have hl := (zBg_ok i hi).2.2.2
  have hw := ymc_w i hi
  have hs := ymc_s i hi
  have ea : ylk T n po i (yml i) 0 = ylike T n po i := rfl
  have eb : zlk T n po i (zwl i) 0 = zlike T n po i := rfl
  rw [ea] at a1 a2 a3
  rw [eb] at b1 b2 b3
  generalize ylike T n po i = y at a1 a2 a3 ⊢
  generalize zlike T n po i = z at b1 b2 b3 ⊢
  have hzy : z ≤ y := by
    refine Nat.not_lt.mp fun q => ?_
    have h1 := b2 y (by omega)
    rw [← hw y (by omega)] at h1
    exact a3 (by split at hl <;> omega) h1
  constructor
  · intro q
    refine Nat.le_antisymm (Nat.not_lt.mp fun q2 => ?_) hzy
    have h1 := a2 z q2
    rw [hw z q] at h1
    exact b3 q h1
  · intro q
    by_cases e : ysp i = true ∧ po + zwl i < n ∧ T (po + zwl i) = 32
    · rw [if_pos e]
      rw [if_pos e.1] at hl
      refine Nat.le_antisymm (by omega) (Nat.not_lt.mp fun q2 => ?_)
      have e3 : y = zwl i := by omega
      have h1 := a3 (by omega)
      rw [e3, hs e.1] at h1
      exact h1 e.2
    · rw [if_neg e]
      refine Nat.le_antisymm (Nat.not_lt.mp fun q2 => ?_) (by omega)
      have h1 := a2 (zwl i) (by omega)
      by_cases e4 : ysp i = true
      · rw [hs e4] at h1
        exact e ⟨e4, h1⟩
      · rw [if_neg e4] at hl
        omega
/-- the likeliest word: the first of those that share most -/
def yarg (T : Nat → Nat) (n po : Nat) : Nat → Nat
  | 0 => 0
  | k + 1 => if ylike T n po (yarg T n po k) < ylike T n po (k + 1) then k + 1 else yarg T n po k
theorem yarg_ok {T : Nat → Nat} {n po : Nat} : ∀ k, yarg T n po k ≤ k ∧ ∀ j, j ≤ k → ylike T n po j ≤ ylike T n po (yarg T n po k) := by
  intro k
  induction k with
  | zero => exact ⟨Nat.le_refl _, fun j hj => by rw [show j = 0 by omega]; exact Nat.le_refl _⟩
  | succ k ih =>
    obtain ⟨h1, h2⟩ := ih
    unfold yarg
    by_cases e : ylike T n po (yarg T n po k) < ylike T n po (k + 1)
    · rw [if_pos e]
      refine ⟨Nat.le_refl _, fun j hj => ?_⟩
      by_cases e2 : j = k + 1
      · subst e2; exact Nat.le_refl _
      · have := h2 j (by omega); omega
    · rw [if_neg e]
      refine ⟨by omega, fun j hj => ?_⟩
      by_cases e2 : j = k + 1
      · subst e2; omega
      · exact h2 j (by omega)
/-- the word that the class finds is the likeliest -/
theorem zwd_y {T : Nat → Nat} {n po : Nat} : ∀ f k b, k + f = 10 → (zwd T n po f k b).1 < 10 → zlike T n po (zwd T n po f k b).1 = zwl (zwd T n po f k b).1 := by
  intro f
  induction f with
  | zero => intro k b _ h; exact absurd h (by show ¬ 10 < 10; omega)
  | succ f ih =>
    intro k b hk h
    unfold zwd at h ⊢
    by_cases e : zlike T n po k = zwl k
    · rw [if_pos e]; exact e
    · rw [if_neg e] at h ⊢
      exact ih (k + 1) _ (by omega) h
theorem zwd_n {T : Nat → Nat} {n po : Nat} : ∀ f k b, k + f = 10 → (zwd T n po f k b).1 = 10 → b ≤ (zwd T n po f k b).2 ∧ (∀ j, k ≤ j → j < 10 → zlike T n po j ≠ zwl j ∧ zlike T n po j ≤ (zwd T n po f k b).2) ∧ ((zwd T n po f k b).2 = b ∨ ∃ j, k ≤ j ∧ j < 10 ∧ zlike T n po j = (zwd T n po f k b).2) := by
  intro f
  induction f with
  | zero => intro k b hk h; exact ⟨Nat.le_refl _, fun j a1 a2 => absurd a2 (by omega), Or.inl rfl⟩
  | succ f ih =>
    intro k b hk h
    unfold zwd at h ⊢
    by_cases e : zlike T n po k = zwl k
    · rw [if_pos e] at h
      exact absurd h (by show ¬ k = 10; omega)
    · rw [if_neg e] at h ⊢
      obtain ⟨h1, h2, h3⟩ := ih (k + 1) _ (by omega) h
      refine ⟨by omega, fun j a1 a2 => ?_, ?_⟩
      · by_cases e2 : j = k
        · subst e2; exact ⟨e, by omega⟩
        · exact h2 j (by omega) a2
      · rcases h3 with h3 | ⟨j, a1, a2, a3⟩
        · by_cases e2 : b ≤ zlike T n po k
          · exact Or.inr ⟨k, Nat.le_refl _, by omega, by rw [h3]; omega⟩
          · exact Or.inl (by rw [h3]; omega)
        · exact Or.inr ⟨j, by omega, a2, a3⟩
theorem yword_y {T : Nat → Nat} {n po k : Nat} (hk : k < 10) (h : zlike T n po k = zwl k) : yarg T n po 9 = k ∧ ylike T n po k = zwl k + (if ysp k = true ∧ po + zwl k < n ∧ T (po + zwl k) = 32 then 1 else 0) := by
  have h1 := (ylike_z (T := T) (n := n) (po := po) hk).2 h
  refine ⟨?_, h1⟩
  obtain ⟨a1, a2⟩ := yarg_ok (T := T) (n := n) (po := po) 9
  refine Classical.byContradiction fun hne => ?_
  have a3 := a2 k (by omega)
  obtain ⟨x, x1, x2⟩ := ynpfx k hk (yarg T n po 9) (by omega) hne
  obtain ⟨b1, b2, -⟩ := ylk_sp (T := T) (n := n) (po := po) (i := yarg T n po 9) (yml (yarg T n po 9)) 0 (by omega) (fun x hx => absurd hx (by omega))
  have eb : ylk T n po (yarg T n po 9) (yml (yarg T n po 9)) 0 = ylike T n po (yarg T n po 9) := rfl
  rw [eb] at b1 b2
  obtain ⟨c1, c2, -⟩ := zlk_sp (T := T) (n := n) (po := po) (i := k) (zwl k) 0 (by omega) (fun x hx => absurd hx (by omega))
  have ec : zlk T n po k (zwl k) 0 = zlike T n po k := rfl
  rw [ec, h] at c2
  have d1 := b2 x (by omega)
  have d2 := c2 x x1
  rcases x2 with x2 | x2
  · omega
  · exact x2 (d1.2.symm.trans d2.2)
theorem yword_n {T : Nat → Nat} {n po : Nat} (h : (zwd T n po 10 0 0).1 = 10) : yarg T n po 9 < 10 ∧ ylike T n po (yarg T n po 9) = (zwd T n po 10 0 0).2 ∧ ylike T n po (yarg T n po 9) < yml (yarg T n po 9) := by
  obtain ⟨a1, a2⟩ := yarg_ok (T := T) (n := n) (po := po) 9
  obtain ⟨h1, h2, h3⟩ := zwd_n (T := T) (n := n) (po := po) 10 0 0 rfl h
  have hz : ∀ j, j < 10 → ylike T n po j = zlike T n po j := fun j hj => (ylike_z hj).1 (by
    have := (h2 j (Nat.zero_le _) hj).1
    have := zlike_le (T := T) (n := n) (po := po) (i := j)
    omega)
  have hw := hz (yarg T n po 9) (by omega)
  have h4 := h2 (yarg T n po 9) (Nat.zero_le _) (by omega)
  have h5 := zlike_le (T := T) (n := n) (po := po) (i := yarg T n po 9)
  have hl := (zBg_ok (yarg T n po 9) (by omega)).2.2.2
  refine ⟨by omega, ?_, by split at hl <;> omega⟩
  rcases h3 with h3 | ⟨j, j1, j2, j3⟩
  · omega
  · have h6 := a2 j (by omega)
    rw [hz j j2] at h6
    omega
theorem lp_M_likeness {Γ : zG} {l : Launch} (hl : l.stackTraces = false) {d : Nat} {h : zH} {n a : Nat} {g : Nat → Nat} {s3 s5 s6 s7 s8 s10 s12 s16 s19 s20 : Int32} {T : Nat → Nat} {po np i : Nat} (hT : h (a + 5) = some (zAr 0 60 T)) (hL7 : h (a + 7) = some (zAr 1 56 zLt)) (hB8 : h (a + 8) = some (zAr 0 11 zBg)) (hn : np ≤ 60) (hc : ∀ i, i < np → T i < 128) (hpo : po ≤ np) (hi : i < 10) : ∀ k m, m + k = yml i → Z Γ l mM_likeness d 0 0 (zFin Γ (zR (some (.int (nI (ylk T np po i k m)))) (z2 h a (zAr 0 246 (g)) (zMo a s3 s5 s6 s7 s8 s10 s12 s16 (nI po) (nI np) s19 s20)) n) 0 0) 18 [some (.ref a), some (.int (nI i)), some (.int (nI m)), some (.int (nI (yml i)))] [] (z2 h a (zAr 0 246 (g)) (zMo a s3 s5 s6 s7 s8 s10 s12 s16 (nI po) (nI np) s19 s20)) n 0 0 := by
  obtain ⟨b1, b2, b3, -⟩ := zBg_ok i hi
  intro k
  induction k with
  | zero =>
    intro m hm
    have h7 := yml_le i hi
    refine zs_iload_n (pc := 18) dM_likeness_18 rfl ?_
    refine zs_iload_n (pc := 19) dM_likeness_19 rfl ?_
    refine zn_icmp_ge (pc := 20) 69 dM_likeness_20 rfl (by omega) (by omega) (fun _ => ?_) (fun h9 => absurd h9 (by omega))
    refine zs_iload_n (pc := 69) dM_likeness_69 rfl ?_
    exact zs_iret (pc := 70) dM_likeness_70 rfl rfl (by omega) (by omega) (⟨rfl, rfl, rfl⟩)
  | succ k ih =>
    intro m hm
    have h7 := yml_le i hi
    obtain ⟨l1, l2⟩ := zLt_ok i hi m (by omega)
    unfold ylk
    by_cases e : po + m < np
    · have hcm := hc (po + m) e
      refine zs_iload_n (pc := 18) dM_likeness_18 rfl ?_
      refine zs_iload_n (pc := 19) dM_likeness_19 rfl ?_
      refine zn_icmp_ge (pc := 20) 69 dM_likeness_20 rfl (by omega) (by omega) (fun h9 => absurd h9 (by omega)) (fun _ => ?_)
      refine zs_aload_n (pc := 23) dM_likeness_23 rfl ?_
      refine zs_get (pc := 24) dM_likeness_24 fM_202 (by first | exact z2_a | exact z2_1 | (rw [z2_n (by omega) (by omega)]; exact hT) | (rw [z2_n (by omega) (by omega)]; exact hB8) | (rw [z2_n (by omega) (by omega)]; exact hL7)) (by rfl) ?_
      refine zs_iload_n (pc := 27) dM_likeness_27 rfl ?_
      refine zn_iadd (pc := 28) dM_likeness_28 ?_
      refine zs_aload_n (pc := 29) dM_likeness_29 rfl ?_
      refine zs_get (pc := 30) dM_likeness_30 fM_205 (by first | exact z2_a | exact z2_1 | (rw [z2_n (by omega) (by omega)]; exact hT) | (rw [z2_n (by omega) (by omega)]; exact hB8) | (rw [z2_n (by omega) (by omega)]; exact hL7)) (by rfl) ?_
      refine zn_icmp_ge (pc := 33) 69 dM_likeness_33 rfl (by omega) (by omega) (fun h9 => absurd h9 (by omega)) (fun _ => ?_)
      refine zs_aload_n (pc := 36) dM_likeness_36 rfl ?_
      refine zs_get (pc := 37) dM_likeness_37 fM_29 (by first | exact z2_a | exact z2_1 | (rw [z2_n (by omega) (by omega)]; exact hT) | (rw [z2_n (by omega) (by omega)]; exact hB8) | (rw [z2_n (by omega) (by omega)]; exact hL7)) (by rfl) ?_
      refine zs_aload_n (pc := 40) dM_likeness_40 rfl ?_
      refine zs_get (pc := 41) dM_likeness_41 fM_202 (by first | exact z2_a | exact z2_1 | (rw [z2_n (by omega) (by omega)]; exact hT) | (rw [z2_n (by omega) (by omega)]; exact hB8) | (rw [z2_n (by omega) (by omega)]; exact hL7)) (by rfl) ?_
      refine zs_iload_n (pc := 44) dM_likeness_44 rfl ?_
      refine zn_iadd (pc := 45) dM_likeness_45 ?_
      refine zn_iald (pc := 46) dM_likeness_46 (by first | exact z2_a | exact z2_1 | (rw [z2_n (by omega) (by omega)]; exact hT) | (rw [z2_n (by omega) (by omega)]; exact hB8) | (rw [z2_n (by omega) (by omega)]; exact hL7)) (by omega) (by first | decide | assumption) ?_
      refine zs_aload_n (pc := 47) dM_likeness_47 rfl ?_
      refine zs_get (pc := 48) dM_likeness_48 fM_35 (by first | exact z2_a | exact z2_1 | (rw [z2_n (by omega) (by omega)]; exact hT) | (rw [z2_n (by omega) (by omega)]; exact hB8) | (rw [z2_n (by omega) (by omega)]; exact hL7)) (by rfl) ?_
      refine zs_aload_n (pc := 51) dM_likeness_51 rfl ?_
      refine zs_get (pc := 52) dM_likeness_52 fM_39 (by first | exact z2_a | exact z2_1 | (rw [z2_n (by omega) (by omega)]; exact hT) | (rw [z2_n (by omega) (by omega)]; exact hB8) | (rw [z2_n (by omega) (by omega)]; exact hL7)) (by rfl) ?_
      refine zs_iload_n (pc := 55) dM_likeness_55 rfl ?_
      refine zn_iald (pc := 56) dM_likeness_56 (by first | exact z2_a | exact z2_1 | (rw [z2_n (by omega) (by omega)]; exact hT) | (rw [z2_n (by omega) (by omega)]; exact hB8) | (rw [z2_n (by omega) (by omega)]; exact hL7)) (by omega) (by first | decide | assumption) ?_
      refine zs_iload_n (pc := 57) dM_likeness_57 rfl ?_
      refine zn_iadd (pc := 58) dM_likeness_58 ?_
      refine zn_cald (pc := 59) dM_likeness_59 (by first | exact z2_a | exact z2_1 | (rw [z2_n (by omega) (by omega)]; exact hT) | (rw [z2_n (by omega) (by omega)]; exact hB8) | (rw [z2_n (by omega) (by omega)]; exact hL7)) (by omega) (by first | decide | assumption) ?_
      rw [l1]
      by_cases e2 : T (po + m) = ymc i m
      · rw [if_pos ⟨by omega, e, e2⟩]
        refine zn_icmp_ne (pc := 60) 69 dM_likeness_60 rfl (by omega) (by omega) (fun h9 => absurd h9 (fun q => q e2)) (fun _ => ?_)
        refine zn_iinc (pc := 63) (ls2 := [_, _, _, _]) dM_likeness_63 rfl (Nat.le_of_ble_eq_true rfl) rfl ?_
        refine zs_goto (pc := 66) 18 dM_likeness_66 rfl ?_
        exact ih (m + 1) (by omega)
      · rw [if_neg (fun q => e2 q.2.2)]
        refine zn_icmp_ne (pc := 60) 69 dM_likeness_60 rfl (by omega) (by omega) (fun _ => ?_) (fun h9 => absurd h9 (e2))
        refine zs_iload_n (pc := 69) dM_likeness_69 rfl ?_
        exact zs_iret (pc := 70) dM_likeness_70 rfl rfl (by omega) (by omega) (⟨rfl, rfl, rfl⟩)
    · rw [if_neg (fun q => e q.2.1)]
      refine zs_iload_n (pc := 18) dM_likeness_18 rfl ?_
      refine zs_iload_n (pc := 19) dM_likeness_19 rfl ?_
      refine zn_icmp_ge (pc := 20) 69 dM_likeness_20 rfl (by omega) (by omega) (fun h9 => absurd h9 (by omega)) (fun _ => ?_)
      refine zs_aload_n (pc := 23) dM_likeness_23 rfl ?_
      refine zs_get (pc := 24) dM_likeness_24 fM_202 (by first | exact z2_a | exact z2_1 | (rw [z2_n (by omega) (by omega)]; exact hT) | (rw [z2_n (by omega) (by omega)]; exact hB8) | (rw [z2_n (by omega) (by omega)]; exact hL7)) (by rfl) ?_
      refine zs_iload_n (pc := 27) dM_likeness_27 rfl ?_
      refine zn_iadd (pc := 28) dM_likeness_28 ?_
      refine zs_aload_n (pc := 29) dM_likeness_29 rfl ?_
      refine zs_get (pc := 30) dM_likeness_30 fM_205 (by first | exact z2_a | exact z2_1 | (rw [z2_n (by omega) (by omega)]; exact hT) | (rw [z2_n (by omega) (by omega)]; exact hB8) | (rw [z2_n (by omega) (by omega)]; exact hL7)) (by rfl) ?_
      refine zn_icmp_ge (pc := 33) 69 dM_likeness_33 rfl (by omega) (by omega) (fun _ => ?_) (fun h9 => absurd h9 (by omega))
      refine zs_iload_n (pc := 69) dM_likeness_69 rfl ?_
      exact zs_iret (pc := 70) dM_likeness_70 rfl rfl (by omega) (by omega) (⟨rfl, rfl, rfl⟩)
theorem s_M_likeness {Γ : zG} {l : Launch} (hl : l.stackTraces = false) {d : Nat} {h : zH} {n a : Nat} {g : Nat → Nat} {s3 s5 s6 s7 s8 s10 s12 s16 s19 s20 : Int32} {T : Nat → Nat} {po np i : Nat} (hT : h (a + 5) = some (zAr 0 60 T)) (hL7 : h (a + 7) = some (zAr 1 56 zLt)) (hB8 : h (a + 8) = some (zAr 0 11 zBg)) (hn : np ≤ 60) (hc : ∀ i, i < np → T i < 128) (hpo : po ≤ np) (hi : i < 10) : zC Γ l d mM_likeness [.ref a, .int (nI i)] (z2 h a (zAr 0 246 (g)) (zMo a s3 s5 s6 s7 s8 s10 s12 s16 (nI po) (nI np) s19 s20)) n 0 0 (zR (some (.int (nI (ylike T np po i)))) (z2 h a (zAr 0 246 (g)) (zMo a s3 s5 s6 s7 s8 s10 s12 s16 (nI po) (nI np) s19 s20)) n) := by
  obtain ⟨b1, b2, b3, -⟩ := zBg_ok i hi
  refine zC_of (ls := [some (.ref a), some (.int (nI i)), none, none]) hl (by decide +kernel) rfl (Nat.le_of_ble_eq_true rfl) rfl ?_
  refine zs_iconst (pc := 0) dM_likeness_0 zi_0 ?_
  refine zs_istore_n (pc := 1) (ls2 := [_, _, _, _]) dM_likeness_1 (Nat.le_of_ble_eq_true rfl) rfl ?_
  refine zs_aload_n (pc := 2) dM_likeness_2 rfl ?_
  refine zs_get (pc := 3) dM_likeness_3 fM_39 (by first | exact z2_a | exact z2_1 | (rw [z2_n (by omega) (by omega)]; exact hT) | (rw [z2_n (by omega) (by omega)]; exact hB8) | (rw [z2_n (by omega) (by omega)]; exact hL7)) (by rfl) ?_
  refine zs_iload_n (pc := 6) dM_likeness_6 rfl ?_
  refine zs_iconst (pc := 7) dM_likeness_7 zi_1 ?_
  refine zn_iadd (pc := 8) dM_likeness_8 ?_
  refine zn_iald (pc := 9) dM_likeness_9 (by first | exact z2_a | exact z2_1 | (rw [z2_n (by omega) (by omega)]; exact hT) | (rw [z2_n (by omega) (by omega)]; exact hB8) | (rw [z2_n (by omega) (by omega)]; exact hL7)) (by omega) (by first | decide | assumption) ?_
  refine zs_aload_n (pc := 10) dM_likeness_10 rfl ?_
  refine zs_get (pc := 11) dM_likeness_11 fM_39 (by first | exact z2_a | exact z2_1 | (rw [z2_n (by omega) (by omega)]; exact hT) | (rw [z2_n (by omega) (by omega)]; exact hB8) | (rw [z2_n (by omega) (by omega)]; exact hL7)) (by rfl) ?_
  refine zs_iload_n (pc := 14) dM_likeness_14 rfl ?_
  refine zn_iald (pc := 15) dM_likeness_15 (by first | exact z2_a | exact z2_1 | (rw [z2_n (by omega) (by omega)]; exact hT) | (rw [z2_n (by omega) (by omega)]; exact hB8) | (rw [z2_n (by omega) (by omega)]; exact hL7)) (by omega) (by first | decide | assumption) ?_
  refine zn_isub (pc := 16) dM_likeness_16 (by omega) ?_
  rw [b1]
  refine zs_istore_n (pc := 17) (ls2 := [_, _, _, _]) dM_likeness_17 (Nat.le_of_ble_eq_true rfl) rfl ?_
  exact lp_M_likeness hl hT hL7 hB8 hn hc hpo hi (yml i) 0 (by omega)

