/-! the numbers stay in order, whatever command comes -/
theorem zsum_rm {f : Nat → Nat} {k : Nat} : ∀ n, k < n → zsum (fun j => if j < k then f j else f (j + 1)) (n - 1) + f k = zsum f n := by
  intro n
  induction n with
  | zero => intro h; omega
  | succ m ih =>
    intro h
    show zsum _ m + f k = zsum f m + f m
    by_cases e : k = m
    · subst e
      rw [zsum_eq (f := fun j => if j < k then f j else f (j + 1)) (f2 := f) k (fun i hi => if_pos hi)]
    · have h1 := ih (by omega)
      obtain ⟨m2, rfl⟩ : ∃ m2, m = m2 + 1 := ⟨m - 1, by omega⟩
      show zsum (fun j => if j < k then f j else f (j + 1)) m2 + (if m2 < k then f m2 else f (m2 + 1)) + f k = _
      rw [if_neg (by omega)]
      have h2 : zsum (fun j => if j < k then f j else f (j + 1)) m2 + f k = zsum f (m2 + 1) := h1
      omega
def zOw (a s : Nat) (q : Nat → Nat) : Prop := q 0 < a ∧ 1 ≤ q 1 ∧ q 1 ≤ 9 ∧ q 2 ≤ zlife q + 1 ∧ q 4 < s ∧ q 5 ≤ 6 ∧ (∀ i, i < q 5 → q (6 + i) < 1000) ∧ (∀ i, i + 1 < q 5 → q (6 + i) < q (6 + (i + 1)))
theorem zlife_eq {q q2 : Nat → Nat} (h1 : q2 1 = q 1) (h3 : q2 3 = q 3) : zlife q2 = zlife q := by unfold zlife; rw [h1, h3]
theorem zOw.eqv {a s : Nat} {q q2 : Nat → Nat} (h : zOw a s q) (e : ∀ i, i < 12 → q2 i = q i) : zOw a s q2 := by
  obtain ⟨o0, o1, o2, o3, o4, o5, o6, o7⟩ := h
  refine ⟨by rw [e 0 (by decide)]; exact o0, by rw [e 1 (by decide)]; exact o1, by rw [e 1 (by decide)]; exact o2, by rw [e 2 (by decide), zlife_eq (e 1 (by decide)) (e 3 (by decide))]; exact o3, by rw [e 4 (by decide)]; exact o4, by rw [e 5 (by decide)]; exact o5, fun i hi => ?_, fun i hi => ?_⟩
  · rw [e 5 (by decide)] at hi
    rw [e _ (by omega)]
    exact o6 i hi
  · rw [e 5 (by decide)] at hi
    rw [e _ (by omega), e _ (by omega)]
    exact o7 i hi
theorem zOw.up {a a2 s s2 : Nat} {q : Nat → Nat} (h : zOw a s q) (ha : a ≤ a2) (hs : s ≤ s2) : zOw a2 s2 q := ⟨Nat.lt_of_lt_of_le h.1 ha, h.2.1, h.2.2.1, h.2.2.2.1, Nat.lt_of_lt_of_le h.2.2.2.2.1 hs, h.2.2.2.2.2⟩
theorem zOw.b {a s B : Nat} {q : Nat → Nat} (h : zOw a s q) (ha : a < 2 ^ 20) (hs : s ≤ 5) (hB : q 3 ≤ B) (hB2 : B < 2 ^ 20) : zEb q := by
  obtain ⟨o0, o1, o2, o3, o4, o5, o6, o7⟩ := h
  have := zlife_le q
  exact ⟨by omega, o2, by omega, by omega, by omega, o5, o6⟩
/-- as IG; c: entries that have left and are not yet counted; those below i may be too old -/
def IK (B c : Nat) (g : Nat → Nat) (i : Nat) : Prop := g 0 ≤ 20 ∧ g 1 ≤ B ∧ 1 ≤ g 2 ∧ g 2 ≤ 5 ∧ g 1 = g 0 + g 3 + g 4 + g 5 + c ∧ (∀ j, j < g 0 → zOw (g 1) (g 2) (eg g j)) ∧ (∀ j, j < g 0 → i ≤ j → eg g j 2 ≤ zlife (eg g j)) ∧ (∀ j, j + 1 < g 0 → eg g j 0 < eg g (j + 1) 0) ∧ zsum (fun j => eg g j 3) (g 0) ≤ B ∧ (∀ j, g 0 ≤ j → j < 20 → eg g j 2 = 0 ∧ eg g j 3 = 0 ∧ eg g j 5 = 0)
theorem IG.K {B : Nat} {g : Nat → Nat} (h : IG B g) : IK B 0 g 0 := by
  obtain ⟨i0, i1, i2, i3, i4, i5, i6, i7, i8⟩ := h
  exact ⟨i0, i1, i2, i3, i4, fun j hj => ⟨(i5 j hj).1, (i5 j hj).2.1, (i5 j hj).2.2.1, Nat.le_succ_of_le (i5 j hj).2.2.2.1, (i5 j hj).2.2.2.2⟩, fun j hj _ => (i5 j hj).2.2.2.1, i6, i7, i8⟩
theorem IK.G {B : Nat} {g : Nat → Nat} (h : IK B 0 g 0) : IG B g := by
  obtain ⟨i0, i1, i2, i3, i4, i5, i5a, i6, i7, i8⟩ := h
  exact ⟨i0, i1, i2, i3, i4, fun j hj => ⟨(i5 j hj).1, (i5 j hj).2.1, (i5 j hj).2.2.1, i5a j hj (Nat.zero_le _), (i5 j hj).2.2.2.2⟩, i6, i7, i8⟩
theorem IK.b {B c i : Nat} {g : Nat → Nat} (h : IK B c g i) (hB : B < 2 ^ 20) {j : Nat} (hj : j < g 0) : zEb (eg g j) := by
  obtain ⟨i0, i1, i2, i3, i4, i5, i5a, i6, i7, i8⟩ := h
  have h1 := zsum_le (f := fun j => eg g j 3) (g 0) hj
  exact (i5 j hj).b (by omega) i3 (Nat.le_trans h1 i7) hB
theorem IK.ne {B c a : Nat} {g : Nat → Nat} (h : IK B c g a) {i j : Nat} (hi : i < g 0) (hj : j < g 0) (hij : i ≠ j) : eg g i 0 ≠ eg g j 0 := by
  have h9 := zmono (f := fun j => eg g j 0) h.2.2.2.2.2.2.2.1
  rcases Nat.lt_or_gt_of_ne hij with h1 | h1
  · have h8 : eg g i 0 < eg g j 0 := h9 i j h1 hj; omega
  · have h8 : eg g j 0 < eg g i 0 := h9 j i h1 hi; omega
theorem eg_lv_19 {g : Nat → Nat} {k i : Nat} (hk : k ≤ 19) (hi : i < 12) : eg (zlv g k) 19 i = 0 := by
  unfold eg zlv
  rw [if_neg (by omega), if_neg (by omega), if_neg (by omega), if_pos (by omega)]
theorem IK.lv {B c i k : Nat} {g : Nat → Nat} (h : IK B c g i) (hk : k < g 0) : IK B (c + 1) (zlv g k) (if k < i then i - 1 else i) := by
  obtain ⟨i0, i1, i2, i3, i4, i5, i5a, i6, i7, i8⟩ := h
  have w0 : zlv g k 0 = g 0 - 1 := by rw [zlv_lo (by decide), if_pos rfl]
  have w1 : ∀ j, j < 6 → j ≠ 0 → zlv g k j = g j := fun j hj h0 => by rw [zlv_lo hj, if_neg h0]
  refine ⟨by omega, by rw [w1 1 (by decide) (by decide)]; exact i1, by rw [w1 2 (by decide) (by decide)]; exact i2, by rw [w1 2 (by decide) (by decide)]; exact i3, by rw [w0, w1 1 (by decide) (by decide), w1 3 (by decide) (by decide), w1 4 (by decide) (by decide), w1 5 (by decide) (by decide)]; omega, ?_, ?_, ?_, ?_, ?_⟩
  · intro j hj
    rw [w1 1 (by decide) (by decide), w1 2 (by decide) (by decide)]
    by_cases e : k ≤ j
    · exact (i5 (j + 1) (by omega)).eqv (fun a ha => eg_lv_h e (by omega) ha)
    · exact (i5 j (by omega)).eqv (fun a ha => eg_lv_l (by omega) ha)
  · intro j hj hij
    by_cases e : k ≤ j
    · rw [eg_lv_h e (by omega) (by decide), zlife_eq (eg_lv_h e (by omega) (by decide)) (eg_lv_h e (by omega) (by decide))]
      exact i5a (j + 1) (by omega) (by split at hij <;> omega)
    · rw [eg_lv_l (by omega) (by decide), zlife_eq (eg_lv_l (by omega) (by decide)) (eg_lv_l (by omega) (by decide))]
      exact i5a j (by omega) (by split at hij <;> omega)
  · intro j hj
    by_cases e : k ≤ j
    · rw [eg_lv_h e (by omega) (by decide), eg_lv_h (by omega) (by omega) (by decide)]
      exact i6 (j + 1) (by omega)
    · rw [eg_lv_l (by omega) (by decide)]
      have a1 := i6 j (by omega)
      by_cases e2 : k ≤ j + 1
      · rw [eg_lv_h e2 (by omega) (by decide)]
        have a2 := i6 (j + 1) (by omega)
        omega
      · rw [eg_lv_l (by omega) (by decide)]
        exact a1
  · have a1 := zsum_rm (f := fun j => eg g j 3) (k := k) (g 0) hk
    rw [w0, zsum_eq (f := fun j => eg (zlv g k) j 3) (f2 := fun j => if j < k then eg g j 3 else eg g (j + 1) 3) (g 0 - 1) (fun j hj => by
      show eg (zlv g k) j 3 = if j < k then eg g j 3 else eg g (j + 1) 3
      by_cases e : j < k
      · rw [if_pos e]; exact eg_lv_l e (by decide)
      · rw [if_neg e]; exact eg_lv_h (by omega) (by omega) (by decide))]
    exact Nat.le_trans (Nat.le_trans (Nat.le_add_right _ _) (Nat.le_of_eq a1)) i7
  · intro j hj hj2
    rw [w0] at hj
    by_cases e : j = 19
    · subst e
      exact ⟨eg_lv_19 (by omega) (by decide), eg_lv_19 (by omega) (by decide), eg_lv_19 (by omega) (by decide)⟩
    · rw [eg_lv_h (by omega) (by omega) (by decide), eg_lv_h (by omega) (by omega) (by decide), eg_lv_h (by omega) (by omega) (by decide)]
      exact i8 (j + 1) (by omega) (by omega)
theorem zage_lo {g : Nat → Nat} {j : Nat} (h : j < 6) : zage g j = g j := by unfold zage; rw [if_neg (by omega)]
theorem eg_age {g : Nat → Nat} {k i : Nat} (hi : i < 12) : eg (zage g) k i = if i = 2 ∧ k < g 0 then eg g k i + 1 else eg g k i := by
  unfold eg zage
  rw [show (6 + 12 * k + i - 6) / 12 = k by omega, show (6 + 12 * k + i - 6) % 12 = i by omega]
  by_cases h : i = 2 ∧ k < g 0
  · rw [if_pos h, if_pos ⟨by omega, h⟩]
  · rw [if_neg h, if_neg (fun q => h q.2)]
theorem IK.age {B c : Nat} {g : Nat → Nat} (h : IK B c g 0) : IK B c (zage g) (g 0) := by
  obtain ⟨i0, i1, i2, i3, i4, i5, i5a, i6, i7, i8⟩ := h
  have lo : ∀ j, j < 6 → zage g j = g j := fun j hj => zage_lo hj
  have ee : ∀ j i, i < 12 → i ≠ 2 → eg (zage g) j i = eg g j i := fun j i hi h2 => by rw [eg_age hi, if_neg (by omega)]
  refine ⟨by rw [lo 0 (by decide)]; exact i0, by rw [lo 1 (by decide)]; exact i1, by rw [lo 2 (by decide)]; exact i2, by rw [lo 2 (by decide)]; exact i3, by rw [lo 0 (by decide), lo 1 (by decide), lo 3 (by decide), lo 4 (by decide), lo 5 (by decide)]; exact i4, ?_, ?_, ?_, ?_, ?_⟩
  · intro j hj
    rw [lo 0 (by decide)] at hj
    obtain ⟨o0, o1, o2, o3, o4, o5, o6, o7⟩ := i5 j hj
    have o3 := i5a j hj (Nat.zero_le _)
    rw [lo 1 (by decide), lo 2 (by decide)]
    refine ⟨by rw [ee j 0 (by decide) (by decide)]; exact o0, by rw [ee j 1 (by decide) (by decide)]; exact o1, by rw [ee j 1 (by decide) (by decide)]; exact o2, by rw [eg_age (by decide), if_pos ⟨rfl, hj⟩, zlife_eq (ee j 1 (by decide) (by decide)) (ee j 3 (by decide) (by decide))]; omega, by rw [ee j 4 (by decide) (by decide)]; exact o4, by rw [ee j 5 (by decide) (by decide)]; exact o5, fun i hi => ?_, fun i hi => ?_⟩
    · rw [ee j 5 (by decide) (by decide)] at hi
      rw [ee j _ (by omega) (by omega)]
      exact o6 i hi
    · rw [ee j 5 (by decide) (by decide)] at hi
      rw [ee j _ (by omega) (by omega), ee j _ (by omega) (by omega)]
      exact o7 i hi
  · intro j hj hij
    rw [lo 0 (by decide)] at hj
    omega
  · intro j hj
    rw [lo 0 (by decide)] at hj
    rw [ee j 0 (by decide) (by decide), ee (j + 1) 0 (by decide) (by decide)]
    exact i6 j hj
  · rw [lo 0 (by decide), zsum_eq (f := fun j => eg (zage g) j 3) (f2 := fun j => eg g j 3) (g 0) (fun j _ => ee j 3 (by decide) (by decide))]
    exact i7
  · intro j hj hj2
    rw [lo 0 (by decide)] at hj
    rw [eg_age (by decide), if_neg (by omega), ee j 3 (by decide) (by decide), ee j 5 (by decide) (by decide)]
    exact i8 j hj hj2
theorem IG.age {B : Nat} {g : Nat → Nat} (h : IG B g) : IK B 0 (zage g) (g 0) := h.K.age
theorem zfal_y {g : Nat → Nat} {k : Nat} (h : zbad g k = true) : zfal g (k + 1) = zfal (zlv g k) k := if_pos h
theorem zfal_n {g : Nat → Nat} {k : Nat} (h : zbad g k = false) : zfal g (k + 1) = zfal g k := if_neg (by rw [h]; decide)
theorem zfal_le : ∀ (k : Nat) (g : Nat → Nat), zfal g k 0 ≤ g 0 := by
  intro k
  induction k with
  | zero => intro g; exact Nat.le_refl _
  | succ k ih =>
    intro g
    cases hz : zbad g k with
    | true =>
      rw [zfal_y hz]
      have h1 := ih (zlv g k)
      have w0 : zlv g k 0 = g 0 - 1 := by rw [zlv_lo (by decide), if_pos rfl]
      omega
    | false => rw [zfal_n hz]; exact ih g
theorem IK.fal {B : Nat} : ∀ (i c : Nat) (g : Nat → Nat), IK B c g i → i ≤ g 0 → IK B (c + (g 0 - zfal g i 0)) (zfal g i) 0 := by
  intro i
  induction i with
  | zero =>
    intro c g h hi
    have e : c + (g 0 - zfal g 0 0) = c := by
      show c + (g 0 - g 0) = c
      omega
    rw [e]
    exact h
  | succ i ih =>
    intro c g h hi
    cases hz : zbad g i with
    | true =>
      have h2 := h.lv (k := i) (by omega)
      rw [if_pos (by omega)] at h2
      have w0 : zlv g i 0 = g 0 - 1 := by rw [zlv_lo (by decide), if_pos rfl]
      have h3 := ih (c + 1) (zlv g i) h2 (by omega)
      have h4 := zfal_le i (zlv g i)
      rw [zfal_y hz]
      have e : c + (g 0 - zfal (zlv g i) i 0) = c + 1 + (zlv g i 0 - zfal (zlv g i) i 0) := by omega
      rw [e]
      exact h3
    | false =>
      rw [zfal_n hz]
      have h5 : ¬ zlife (eg g i) < eg g i 2 := of_decide_eq_false hz
      obtain ⟨i0, i1, i2, i3, i4, i5, i5a, i6, i7, i8⟩ := h
      refine ih c g ⟨i0, i1, i2, i3, i4, i5, fun j hj hij => ?_, i6, i7, i8⟩ (by omega)
      by_cases e : j = i
      · subst e; omega
      · exact i5a j hj (by omega)
theorem IK.up5 {B c v : Nat} {g : Nat → Nat} (h : IK B c g 0) (hv : v = g 5 + c) : IG B (zup g 5 v) := by
  obtain ⟨i0, i1, i2, i3, i4, i5, i5a, i6, i7, i8⟩ := h
  apply IK.G
  have ee : ∀ j, eg (zup g 5 v) j = eg g j := fun j => eg_up (by decide)
  have e0 : zup g 5 v 0 = g 0 := rfl
  have e1 : zup g 5 v 1 = g 1 := rfl
  have e2 : zup g 5 v 2 = g 2 := rfl
  refine ⟨i0, i1, i2, i3, ?_, fun j hj => by rw [ee, e1, e2]; exact i5 j hj, fun j hj h0 => by rw [ee]; exact i5a j hj h0, fun j hj => by rw [ee, ee]; exact i6 j hj, ?_, fun j hj hj2 => by rw [ee]; exact i8 j hj hj2⟩
  · show g 1 = g 0 + g 3 + g 4 + v + 0
    omega
  · rw [e0, zsum_eq (f := fun j => eg (zup g 5 v) j 3) (f2 := fun j => eg g j 3) (g 0) (fun j _ => by show eg (zup g 5 v) j 3 = _; rw [ee])]
    exact i7
theorem zfal_lo : ∀ (k : Nat) (g : Nat → Nat) (j : Nat), j < 6 → j ≠ 0 → zfal g k j = g j := by
  intro k
  induction k with
  | zero => intro g j _ _; rfl
  | succ k ih =>
    intro g j hj h0
    cases hz : zbad g k with
    | true => rw [zfal_y hz, ih _ j hj h0, zlv_lo hj, if_neg h0]
    | false => rw [zfal_n hz]; exact ih g j hj h0
theorem IG.day {B : Nat} {g : Nat → Nat} (h : IG B g) : IG B (zday g) := by
  have h1 := h.age
  have e0 : zage g 0 = g 0 := zage_lo (by decide)
  have h2 := IK.fal (g 0) 0 (zage g) h1 (by omega)
  refine h2.up5 ?_
  rw [zfal_lo _ _ 5 (by decide) (by decide), zage_lo (by decide), e0]
  omega
theorem IG.days {B : Nat} {g : Nat → Nat} (h : IG B g) : ∀ k, IG B (zdays g k) := by
  intro k
  induction k with
  | zero => exact h
  | succ k ih => exact ih.day

