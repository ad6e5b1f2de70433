/-! the order of the numbers is kept by every command -/
theorem IG.mono {B B2 : Nat} {g : Nat → Nat} (h : IG B g) (hB : B ≤ B2) : IG B2 g := ⟨h.1, Nat.le_trans h.2.1 hB, h.2.2.1, h.2.2.2.1, h.2.2.2.2.1, h.2.2.2.2.2.1, h.2.2.2.2.2.2.1, Nat.le_trans h.2.2.2.2.2.2.2.1 hB, h.2.2.2.2.2.2.2.2⟩
theorem zsum_up {f : Nat → Nat} {k v : Nat} : ∀ n, k < n → zsum (fun j => if j = k then v else f j) n + f k = zsum f n + v := by
  intro n
  induction n with
  | zero => intro h; omega
  | succ n ih =>
    intro h
    show zsum _ n + (if n = k then v else f n) + f k = zsum f n + f n + v
    by_cases e : n = k
    · subst e
      rw [if_pos rfl, zsum_eq (f := fun j => if j = n then v else f j) (f2 := f) n (fun i hi => if_neg (by omega))]
      omega
    · have h1 := ih (by omega)
      rw [if_neg e]
      omega
theorem IG.w {B : Nat} {g : Nat → Nat} (h : IG B g) {j : Nat} (hj : j < g 0) : zOw (g 1) (g 2) (eg g j) ∧ eg g j 2 ≤ zlife (eg g j) := by
  have h1 := h.K
  exact ⟨h1.2.2.2.2.2.1 j hj, h1.2.2.2.2.2.2.1 j hj (Nat.zero_le _)⟩
theorem IK.put {B B2 c k : Nat} {g q : Nat → Nat} (h : IK B c g 0) (hk : k < g 0) (hq : zOw (g 1) (g 2) q) (hl : q 2 ≤ zlife q) (h0 : q 0 = eg g k 0) (hB : B ≤ B2) (hs : zsum (fun j => eg g j 3) (g 0) + q 3 ≤ B2 + eg g k 3) : IK B2 c (zput g k q) 0 := by
  obtain ⟨i0, i1, i2, i3, i4, i5, i5a, i6, i7, i8⟩ := h
  have lo : ∀ j, j < 6 → zput g k q j = g j := fun j hj => zput_lo hj
  have o0 : ∀ j, j < g 0 → eg (zput g k q) j 0 = eg g j 0 := fun j hj => by
    by_cases e : j = k
    · subst e; rw [eg_put_s (by decide), h0]
    · rw [eg_put_o e (by decide)]
  refine ⟨by rw [lo 0 (by decide)]; exact i0, by rw [lo 1 (by decide)]; omega, by rw [lo 2 (by decide)]; exact i2, by rw [lo 2 (by decide)]; exact i3, by rw [lo 0 (by decide), lo 1 (by decide), lo 3 (by decide), lo 4 (by decide), lo 5 (by decide)]; exact i4, ?_, ?_, ?_, ?_, ?_⟩
  · intro j hj
    rw [lo 0 (by decide)] at hj
    rw [lo 1 (by decide), lo 2 (by decide)]
    by_cases e : j = k
    · subst e; exact hq.eqv (fun i hi => eg_put_s hi)
    · exact (i5 j hj).eqv (fun i hi => eg_put_o e hi)
  · intro j hj hz
    rw [lo 0 (by decide)] at hj
    by_cases e : j = k
    · subst e
      rw [eg_put_s (by decide), zlife_eq (q := q) (eg_put_s (by decide)) (eg_put_s (by decide))]
      exact hl
    · rw [eg_put_o e (by decide), zlife_eq (q := eg g j) (eg_put_o e (by decide)) (eg_put_o e (by decide))]
      exact i5a j hj hz
  · intro j hj
    rw [lo 0 (by decide)] at hj
    rw [o0 j (by omega), o0 (j + 1) hj]
    exact i6 j hj
  · rw [lo 0 (by decide), zsum_eq (f := fun j => eg (zput g k q) j 3) (f2 := fun j => if j = k then q 3 else eg g j 3) (g 0) (fun j hj => by
      show eg (zput g k q) j 3 = if j = k then q 3 else eg g j 3
      by_cases e : j = k
      · subst e; rw [eg_put_s (by decide), if_pos rfl]
      · rw [eg_put_o e (by decide), if_neg e])]
    have h9 := zsum_up (f := fun j => eg g j 3) (k := k) (v := q 3) (g 0) hk
    have h8 : zsum (fun j => if j = k then q 3 else eg g j 3) (g 0) + eg g k 3 = zsum (fun j => eg g j 3) (g 0) + q 3 := h9
    omega
  · intro j hj hj2
    rw [lo 0 (by decide)] at hj
    rw [eg_put_o (by omega) (by decide), eg_put_o (by omega) (by decide), eg_put_o (by omega) (by decide)]
    exact i8 j hj hj2
theorem IG.put {B k : Nat} {g q : Nat → Nat} (h : IG B g) (hk : k < g 0) (hq : zOw (g 1) (g 2) q) (hl : q 2 ≤ zlife q) (h0 : q 0 = eg g k 0) (h3 : q 3 = eg g k 3) : IG B (zput g k q) := by
  have h9 := h.2.2.2.2.2.2.2.1
  exact (h.K.put hk hq hl h0 (Nat.le_refl B) (by omega)).G
theorem zpos_hi {q : Nat → Nat} {v : Nat} : ∀ n i, zpos q v n ≤ i → i < n → v < q (6 + i) := by
  intro n
  induction n with
  | zero => intro i _ h; omega
  | succ n ih =>
    intro i h1 h2
    unfold zpos at h1
    by_cases e : v < q (6 + n)
    · rw [if_pos e] at h1
      by_cases e2 : i = n
      · subst e2; exact e
      · exact ih i h1 (by omega)
    · rw [if_neg e] at h1
      omega
theorem zpos_lw {q : Nat → Nat} {v : Nat} : ∀ n, zpos q v n = 0 ∨ ¬ v < q (6 + (zpos q v n - 1)) := by
  intro n
  induction n with
  | zero => exact Or.inl rfl
  | succ n ih =>
    unfold zpos
    by_cases e : v < q (6 + n)
    · rw [if_pos e]; exact ih
    · rw [if_neg e]; exact Or.inr e
theorem zins_c {q : Nat → Nat} {v i : Nat} (hi : i ≤ q 5) : zins q v (6 + i) = if i < zpos q v (q 5) then q (6 + i) else if i = zpos q v (q 5) then v else q (6 + (i - 1)) := by
  unfold zins
  have hp := zpos_le q v (q 5)
  rw [if_neg (by omega)]
  by_cases h1 : i < zpos q v (q 5)
  · rw [if_pos (by omega), if_pos h1]
  · rw [if_neg (by omega), if_neg h1]
    by_cases h2 : i = zpos q v (q 5)
    · rw [if_pos (by omega), if_pos h2]
    · rw [if_neg (by omega), if_neg h2, if_pos (by omega)]
      congr 1
      omega
theorem zin_no {q : Nat → Nat} {v : Nat} (h : zin q v = false) : ∀ i, i < q 5 → q (6 + i) ≠ v := fun i hi => by simpa using zany_no.mp h i hi
theorem zOw.ins {a s v : Nat} {q : Nat → Nat} (h : zOw a s q) (h5 : q 5 < 6) (hv : v < 1000) (hn : zin q v = false) : zOw a s (zins q v) := by
  obtain ⟨o0, o1, o2, o3, o4, o5, o6, o7⟩ := h
  have hn2 := zin_no hn
  have hp := zpos_le q v (q 5)
  have hh := zpos_hi (q := q) (v := v) (q 5)
  have hw := zpos_lw (q := q) (v := v) (q 5)
  have hc := fun i hi => zins_c (q := q) (v := v) (i := i) hi
  refine ⟨by rw [zins_lo (by decide)]; exact o0, by rw [zins_lo (by decide)]; exact o1, by rw [zins_lo (by decide)]; exact o2, by rw [zins_lo (by decide), zlife_eq (q := q) (zins_lo (by decide)) (zins_lo (by decide))]; exact o3, by rw [zins_lo (by decide)]; exact o4, by rw [zins_5]; omega, fun i hi => ?_, fun i hi => ?_⟩
  · rw [zins_5] at hi
    rw [hc i (by omega)]
    split
    · exact o6 i (by omega)
    · split
      · exact hv
      · exact o6 (i - 1) (by omega)
  · rw [zins_5] at hi
    rw [hc i (by omega), hc (i + 1) (by omega)]
    generalize zpos q v (q 5) = p at hp hh hw ⊢
    by_cases e1 : i + 1 < p
    · rw [if_pos (by omega), if_pos e1]
      exact o7 i (by omega)
    · by_cases e2 : i + 1 = p
      · rw [if_pos (by omega), if_neg (by omega), if_pos e2]
        rcases hw with hw | hw
        · omega
        · have h1 := hn2 i (by omega)
          rw [show p - 1 = i by omega] at hw
          omega
      · by_cases e3 : i = p
        · rw [if_neg (by omega), if_pos e3, if_neg (by omega), if_neg (by omega)]
          rw [show i + 1 - 1 = i by omega]
          exact hh i (by omega) (by omega)
        · rw [if_neg (by omega), if_neg e3, if_neg (by omega), if_neg (by omega)]
          obtain ⟨i2, rfl⟩ : ∃ i2, i = i2 + 1 := ⟨i - 1, by omega⟩
          rw [show i2 + 1 - 1 = i2 by omega, show i2 + 1 + 1 - 1 = i2 + 1 by omega]
          exact o7 i2 (by omega)
theorem zdelm_lo {q : Nat → Nat} {t j : Nat} (h : j < 5) : zdelm q t j = q j := by unfold zdelm; rw [if_neg (by omega), if_pos (by omega)]
theorem zdelm_c {q : Nat → Nat} {t i : Nat} (h : i < 5) : zdelm q t (6 + i) = if i < t then q (6 + i) else q (6 + (i + 1)) := by
  unfold zdelm
  rw [if_neg (by omega)]
  by_cases e : i < t
  · rw [if_pos (by omega), if_pos e]
  · rw [if_neg (by omega), if_neg e, if_pos (by omega)]
    congr 1
theorem zOw.del {a s t : Nat} {q : Nat → Nat} (h : zOw a s q) : zOw a s (zdelm q t) := by
  obtain ⟨o0, o1, o2, o3, o4, o5, o6, o7⟩ := h
  have e5 : zdelm q t 5 = q 5 - 1 := rfl
  refine ⟨by rw [zdelm_lo (by decide)]; exact o0, by rw [zdelm_lo (by decide)]; exact o1, by rw [zdelm_lo (by decide)]; exact o2, by rw [zdelm_lo (by decide), zlife_eq (q := q) (zdelm_lo (by decide)) (zdelm_lo (by decide))]; exact o3, by rw [zdelm_lo (by decide)]; exact o4, by rw [e5]; omega, fun i hi => ?_, fun i hi => ?_⟩
  · rw [e5] at hi
    rw [zdelm_c (by omega)]
    split
    · exact o6 i (by omega)
    · exact o6 (i + 1) (by omega)
  · rw [e5] at hi
    rw [zdelm_c (by omega), zdelm_c (by omega)]
    have a1 := o7 i (by omega)
    have a2 := o7 (i + 1) (by omega)
    (repeat' split) <;> omega
theorem zOw.abs {a s : Nat} {q q2 : Nat → Nat} (h : zOw a s q) (h2 : ∀ i, i < q2 5 → q2 (6 + i) < 1000) (hf : zabs q q2 (q2 5) 5 ≤ 6) : ∀ n, n ≤ q2 5 → zOw a s (zabs q q2 n) := by
  intro n
  induction n with
  | zero => intro _; exact h
  | succ n ih =>
    intro hn
    have h1 := ih (by omega)
    have hm := zabs_mono2 (q := q) (q2 := q2) (n + 1) (q2 5 - (n + 1))
    rw [show n + 1 + (q2 5 - (n + 1)) = q2 5 by omega] at hm
    rw [zabs_s] at hm ⊢
    cases hz : zin (zabs q q2 n) (q2 (6 + n)) with
    | true => rw [if_pos rfl]; exact h1
    | false =>
      rw [hz, if_neg (by decide), zins_5] at hm
      rw [if_neg (by decide)]
      exact h1.ins (by omega) (h2 n (by omega)) hz
theorem zOw.mrg {a s : Nat} {q q2 : Nat → Nat} (h : zOw a s q) (h2 : zOw a s q2) (hl : q 2 ≤ zlife q) (hf : zabs q q2 (q2 5) 5 ≤ 6) : zOw a s (zmrg q q2) ∧ zmrg q q2 2 ≤ zlife (zmrg q q2) := by
  obtain ⟨o0, o1, o2, o3, o4, o5, o6, o7⟩ := h.abs h2.2.2.2.2.2.2.1 hf (q2 5) (Nat.le_refl _)
  obtain ⟨p0, p1, p2, p3, p4, p5, p6, p7⟩ := h
  obtain ⟨r0, r1, r2, r3, r4, r5, r6, r7⟩ := h2
  have m1 : zmrg q q2 1 = max (q 1) (q2 1) := rfl
  have m2 : zmrg q q2 2 = min (q 2) (q2 2) := rfl
  have m3 : zmrg q q2 3 = q 3 + q2 3 := rfl
  have mo : ∀ i, i ≠ 1 → i ≠ 2 → i ≠ 3 → zmrg q q2 i = zabs q q2 (q2 5) i := fun i a1 a2 a3 => by unfold zmrg; rw [if_neg a1, if_neg a2, if_neg a3]
  have hlf : zlife q ≤ zlife (zmrg q q2) := by
    unfold zlife
    rw [m1, m3]
    have := Nat.le_max_left (q 1) (q2 1)
    (repeat' split) <;> omega
  have h9 : zmrg q q2 2 ≤ zlife (zmrg q q2) := by
    rw [m2]
    have := Nat.min_le_left (q 2) (q2 2)
    omega
  refine ⟨⟨by rw [mo 0 (by decide) (by decide) (by decide)]; exact o0, by rw [m1]; omega, by rw [m1]; omega, by omega, by rw [mo 4 (by decide) (by decide) (by decide)]; exact o4, by rw [mo 5 (by decide) (by decide) (by decide)]; exact o5, fun i hi => ?_, fun i hi => ?_⟩, h9⟩
  · rw [mo 5 (by decide) (by decide) (by decide)] at hi
    rw [mo _ (by omega) (by omega) (by omega)]
    exact o6 i hi
  · rw [mo 5 (by decide) (by decide) (by decide)] at hi
    rw [mo _ (by omega) (by omega) (by omega), mo _ (by omega) (by omega) (by omega)]
    exact o7 i hi
theorem IK.up3 {B c v : Nat} {g : Nat → Nat} (h : IK B c g 0) (hv : v = g 3 + c) : IG B (zup g 3 v) := by
  obtain ⟨i0, i1, i2, i3, i4, i5, i5a, i6, i7, i8⟩ := h
  apply IK.G
  have ee : ∀ j, eg (zup g 3 v) j = eg g j := fun j => eg_up (by decide)
  have e0 : zup g 3 v 0 = g 0 := rfl
  have e1 : zup g 3 v 1 = g 1 := rfl
  have e2 : zup g 3 v 2 = g 2 := rfl
  refine ⟨i0, i1, i2, i3, ?_, fun j hj => by rw [ee, e1, e2]; exact i5 j hj, fun j hj h0 => by rw [ee]; exact i5a j hj h0, fun j hj => by rw [ee, ee]; exact i6 j hj, ?_, fun j hj hj2 => by rw [ee]; exact i8 j hj hj2⟩
  · show g 1 = g 0 + v + g 4 + g 5 + 0
    omega
  · rw [e0, zsum_eq (f := fun j => eg (zup g 3 v) j 3) (f2 := fun j => eg g j 3) (g 0) (fun j _ => by show eg (zup g 3 v) j 3 = _; rw [ee])]
    exact i7
theorem IK.up4 {B c v : Nat} {g : Nat → Nat} (h : IK B c g 0) (hv : v = g 4 + c) : IG B (zup g 4 v) := by
  obtain ⟨i0, i1, i2, i3, i4, i5, i5a, i6, i7, i8⟩ := h
  apply IK.G
  have ee : ∀ j, eg (zup g 4 v) j = eg g j := fun j => eg_up (by decide)
  have e0 : zup g 4 v 0 = g 0 := rfl
  have e1 : zup g 4 v 1 = g 1 := rfl
  have e2 : zup g 4 v 2 = g 2 := rfl
  refine ⟨i0, i1, i2, i3, ?_, fun j hj => by rw [ee, e1, e2]; exact i5 j hj, fun j hj h0 => by rw [ee]; exact i5a j hj h0, fun j hj => by rw [ee, ee]; exact i6 j hj, ?_, fun j hj hj2 => by rw [ee]; exact i8 j hj hj2⟩
  · show g 1 = g 0 + g 3 + v + g 5 + 0
    omega
  · rw [e0, zsum_eq (f := fun j => eg (zup g 4 v) j 3) (f2 := fun j => eg g j 3) (g 0) (fun j _ => by show eg (zup g 4 v) j 3 = _; rw [ee])]
    exact i7
theorem IG.up2 {B v : Nat} {g : Nat → Nat} (h : IG B g) (hv : g 2 ≤ v) (h5 : v ≤ 5) : IG B (zup g 2 v) := by
  obtain ⟨i0, i1, i2, i3, i4, i5, i5a, i6, i7, i8⟩ := h.K
  apply IK.G
  have ee : ∀ j, eg (zup g 2 v) j = eg g j := fun j => eg_up (by decide)
  have e0 : zup g 2 v 0 = g 0 := rfl
  have e1 : zup g 2 v 1 = g 1 := rfl
  have e2 : zup g 2 v 2 = v := rfl
  refine ⟨i0, i1, by rw [e2]; omega, by rw [e2]; exact h5, i4, fun j hj => by rw [ee, e1, e2]; exact (i5 j hj).up (Nat.le_refl _) hv, fun j hj h0 => by rw [ee]; exact i5a j hj h0, fun j hj => by rw [ee, ee]; exact i6 j hj, ?_, fun j hj hj2 => by rw [ee]; exact i8 j hj hj2⟩
  rw [e0, zsum_eq (f := fun j => eg (zup g 2 v) j 3) (f2 := fun j => eg g j 3) (g 0) (fun j _ => by show eg (zup g 2 v) j 3 = _; rw [ee])]
  exact i7
theorem IG.add {B w : Nat} {g : Nat → Nat} (h : IG B g) (h20 : g 0 < 20) (h1 : 1 ≤ w) (h9 : w ≤ 9) : IG (B + 1) (zadd g w) := by
  obtain ⟨i0, i1, i2, i3, i4, i5, i5a, i6, i7, i8⟩ := h.K
  have z9 := i8 (g 0) (Nat.le_refl _) h20
  apply IK.G
  have lo : ∀ j, j < 6 → zadd g w j = if j = 0 then g 0 + 1 else if j = 1 then g 1 + 1 else g j := fun j hj => zadd_lo hj
  have l0 : zadd g w 0 = g 0 + 1 := rfl
  have l1 : zadd g w 1 = g 1 + 1 := rfl
  have l2 : ∀ j, j < 6 → 2 ≤ j → zadd g w j = g j := fun j hj h2 => by rw [lo j hj, if_neg (by omega), if_neg (by omega)]
  refine ⟨by omega, by omega, by rw [l2 2 (by decide) (by decide)]; exact i2, by rw [l2 2 (by decide) (by decide)]; exact i3, by rw [l0, l1, l2 3 (by decide) (by decide), l2 4 (by decide) (by decide), l2 5 (by decide) (by decide)]; omega, ?_, ?_, ?_, ?_, ?_⟩
  · intro j hj
    rw [l1, l2 2 (by decide) (by decide)]
    by_cases e : j = g 0
    · subst e
      have e5 : eg (zadd g w) (g 0) 5 = 0 := by rw [eg_add_s, if_neg (by decide), if_neg (by decide), if_neg (by decide)]; exact z9.2.2
      refine ⟨by rw [eg_add_s, if_pos rfl]; omega, by rw [eg_add_s, if_neg (by decide), if_pos rfl]; exact h1, by rw [eg_add_s, if_neg (by decide), if_pos rfl]; exact h9, by rw [eg_add_s, if_neg (by decide), if_neg (by decide), if_neg (by decide), z9.1]; omega, by rw [eg_add_s, if_neg (by decide), if_neg (by decide), if_pos rfl]; omega, by omega, fun i hi => by omega, fun i hi => by omega⟩
    · exact ((i5 j (by omega)).up (Nat.le_succ _) (Nat.le_refl _)).eqv (fun i hi => eg_add_o e hi)
  · intro j hj hz
    by_cases e : j = g 0
    · subst e
      rw [eg_add_s, if_neg (by decide), if_neg (by decide), if_neg (by decide), z9.1]
      omega
    · rw [eg_add_o e (by decide), zlife_eq (q := eg g j) (eg_add_o e (by decide)) (eg_add_o e (by decide))]
      exact i5a j (by omega) hz
  · intro j hj
    rw [eg_add_o (by omega) (by decide)]
    by_cases e : j + 1 = g 0
    · rw [e, eg_add_s, if_pos rfl]
      exact (i5 j (by omega)).1
    · rw [eg_add_o e (by decide)]
      exact i6 j (by omega)
  · rw [l0]
    show zsum (fun j => eg (zadd g w) j 3) (g 0) + eg (zadd g w) (g 0) 3 ≤ B + 1
    rw [zsum_eq (f := fun j => eg (zadd g w) j 3) (f2 := fun j => eg g j 3) (g 0) (fun j hj => by
      show eg (zadd g w) j 3 = eg g j 3
      exact eg_add_o (by omega) (by decide)), eg_add_s, if_neg (by decide), if_neg (by decide), if_neg (by decide), z9.2.1]
    omega
  · intro j hj hj2
    rw [eg_add_o (by omega) (by decide), eg_add_o (by omega) (by decide), eg_add_o (by omega) (by decide)]
    exact i8 j (by omega) hj2
theorem IG.touch {B k : Nat} {g : Nat → Nat} (h : IG B g) (hk : k < g 0) : IG B (zup g (6 + 12 * k + 2) 0) := by
  obtain ⟨hw, hl⟩ := h.w hk
  obtain ⟨o0, o1, o2, o3, o4, o5, o6, o7⟩ := hw
  rw [← zput_up (g := g) (k := k) (i := 2) (v := 0) (by decide)]
  have e2 : zup (eg g k) 2 0 2 = 0 := zup_s
  have eo : ∀ i, i ≠ 2 → zup (eg g k) 2 0 i = eg g k i := fun i hi => zup_n hi
  refine h.put hk ⟨by rw [eo 0 (by decide)]; exact o0, by rw [eo 1 (by decide)]; exact o1, by rw [eo 1 (by decide)]; exact o2, by rw [e2]; omega, by rw [eo 4 (by decide)]; exact o4, by rw [eo 5 (by decide)]; exact o5, fun i hi => ?_, fun i hi => ?_⟩ (by rw [e2]; omega) (eo 0 (by decide)) (eo 3 (by decide))
  · rw [eo 5 (by decide)] at hi
    rw [eo _ (by omega)]
    exact o6 i hi
  · rw [eo 5 (by decide)] at hi
    rw [eo _ (by omega), eo _ (by omega)]
    exact o7 i hi
theorem IG.drop {B k : Nat} {g : Nat → Nat} (h : IG B g) (hk : k < g 0) : IG B (zup (zlv g k) 3 (g 3 + 1)) := by
  have h1 := h.K.lv hk
  rw [if_neg (by omega)] at h1
  exact h1.up3 (by rw [zlv_lo (by decide), if_neg (by decide)])
theorem IG.merge {B k t : Nat} {g : Nat → Nat} (h : IG B g) (hk : k < g 0) (ht : t < g 0) (hkt : k ≠ t) (hf : zabs (eg g t) (eg g k) (eg g k 5) 5 ≤ 6) : IG B (zup (zlv (zput g t (zmrg (eg g t) (eg g k))) k) 4 (g 4 + 1)) := by
  obtain ⟨w1, l1⟩ := h.w hk
  obtain ⟨w2, l2⟩ := h.w ht
  obtain ⟨m1, m2⟩ := w2.mrg w1 l2 hf
  have m0 : zmrg (eg g t) (eg g k) 0 = eg g t 0 := zabs_lo (q := eg g t) (q2 := eg g k) (j := 0) (by decide) _
  have m3 : zmrg (eg g t) (eg g k) 3 = eg g t 3 + eg g k 3 := rfl
  have h7 := h.2.2.2.2.2.2.2.1
  have hk3 := zsum_le (f := fun j => eg g j 3) (g 0) hk
  have h1 := h.K.put (B2 := B + eg g k 3) ht m1 m2 m0 (by omega) (by omega)
  have hk2 : k < zput g t (zmrg (eg g t) (eg g k)) 0 := by rw [zput_lo (by decide)]; exact hk
  have h2 := h1.lv hk2
  rw [if_neg (by omega)] at h2
  have e4 : zlv (zput g t (zmrg (eg g t) (eg g k))) k 4 = g 4 := by rw [zlv_lo (by decide), if_neg (by decide), zput_lo (by decide)]
  have h3 := h2.up4 (v := g 4 + 1) (by rw [e4])
  have s1 := zsum_up (f := fun j => eg g j 3) (k := t) (v := eg g t 3 + eg g k 3) (g 0) ht
  have s1b : zsum (fun j => if j = t then eg g t 3 + eg g k 3 else eg g j 3) (g 0) + eg g t 3 = zsum (fun j => eg g j 3) (g 0) + (eg g t 3 + eg g k 3) := s1
  have s2 := zsum_rm (f := fun j => eg (zput g t (zmrg (eg g t) (eg g k))) j 3) (k := k) (g 0) hk
  have s2b : zsum (fun j => if j < k then eg (zput g t (zmrg (eg g t) (eg g k))) j 3 else eg (zput g t (zmrg (eg g t) (eg g k))) (j + 1) 3) (g 0 - 1) + eg (zput g t (zmrg (eg g t) (eg g k))) k 3 = zsum (fun j => eg (zput g t (zmrg (eg g t) (eg g k))) j 3) (g 0) := s2
  have s3 : zsum (fun j => eg (zput g t (zmrg (eg g t) (eg g k))) j 3) (g 0) = zsum (fun j => if j = t then eg g t 3 + eg g k 3 else eg g j 3) (g 0) := zsum_eq (g 0) (fun j hj => by
    show eg (zput g t (zmrg (eg g t) (eg g k))) j 3 = if j = t then eg g t 3 + eg g k 3 else eg g j 3
    by_cases e : j = t
    · subst e; rw [eg_put_s (by decide), if_pos rfl, m3]
    · rw [eg_put_o e (by decide), if_neg e])
  have s4 : eg (zput g t (zmrg (eg g t) (eg g k))) k 3 = eg g k 3 := eg_put_o hkt (by decide)
  have w0 : zlv (zput g t (zmrg (eg g t) (eg g k))) k 0 = g 0 - 1 := by rw [zlv_lo (by decide), if_pos rfl, zput_lo (by decide)]
  have wz : zup (zlv (zput g t (zmrg (eg g t) (eg g k))) k) 4 (g 4 + 1) 0 = g 0 - 1 := w0
  have w9 : zup (zlv (zput g t (zmrg (eg g t) (eg g k))) k) 4 (g 4 + 1) 1 = g 1 := by
    show zlv (zput g t (zmrg (eg g t) (eg g k))) k 1 = g 1
    rw [zlv_lo (by decide), if_neg (by decide), zput_lo (by decide)]
  have s5 : zsum (fun j => eg (zup (zlv (zput g t (zmrg (eg g t) (eg g k))) k) 4 (g 4 + 1)) j 3) (g 0 - 1) = zsum (fun j => if j < k then eg (zput g t (zmrg (eg g t) (eg g k))) j 3 else eg (zput g t (zmrg (eg g t) (eg g k))) (j + 1) 3) (g 0 - 1) := zsum_eq (g 0 - 1) (fun j hj => by
    show eg (zup (zlv (zput g t (zmrg (eg g t) (eg g k))) k) 4 (g 4 + 1)) j 3 = if j < k then eg (zput g t (zmrg (eg g t) (eg g k))) j 3 else eg (zput g t (zmrg (eg g t) (eg g k))) (j + 1) 3
    have i0 := h.1
    rw [eg_up (by decide)]
    by_cases e : j < k
    · rw [if_pos e]; exact eg_lv_l e (by decide)
    · rw [if_neg e]; exact eg_lv_h (by omega) (by omega) (by decide))
  have h8 := h.2.1
  exact ⟨h3.1, by rw [w9]; exact h8, h3.2.2.1, h3.2.2.2.1, h3.2.2.2.2.1, h3.2.2.2.2.2.1, h3.2.2.2.2.2.2.1, by rw [wz, s5]; omega, h3.2.2.2.2.2.2.2.2⟩
theorem IG.join {B s : Nat} {g : Nat → Nat} (h : IG B g) (hs : s + 1 < g 2) : IG B (zjoin g s) := by
  obtain ⟨i0, i1, i2, i3, i4, i5, i5a, i6, i7, i8⟩ := h.K
  rw [zjoin_N]
  have ee : ∀ j, eg (zup (zjoinN g s (g 0)) 2 (g 2 - 1)) j = eg (zjoinN g s (g 0)) j := fun j => eg_up (by decide)
  have lo : ∀ j, j < 6 → j ≠ 2 → zup (zjoinN g s (g 0)) 2 (g 2 - 1) j = g j := fun j hj h2 => by rw [zup_n h2, zjn_lo hj]
  have l2 : zup (zjoinN g s (g 0)) 2 (g 2 - 1) 2 = g 2 - 1 := zup_s
  have eo : ∀ j i, i < 12 → i ≠ 4 → eg (zjoinN g s (g 0)) j i = eg g j i := fun j i hi h4 => by rw [eg_jn hi, if_neg (by omega)]
  apply IK.G
  refine ⟨by rw [lo 0 (by decide) (by decide)]; exact i0, by rw [lo 1 (by decide) (by decide)]; exact i1, by rw [l2]; omega, by rw [l2]; omega, by rw [lo 0 (by decide) (by decide), lo 1 (by decide) (by decide), lo 3 (by decide) (by decide), lo 4 (by decide) (by decide), lo 5 (by decide) (by decide)]; exact i4, ?_, ?_, ?_, ?_, ?_⟩
  · intro j hj
    rw [lo 0 (by decide) (by decide)] at hj
    obtain ⟨o0, o1, o2, o3, o4, o5, o6, o7⟩ := i5 j hj
    rw [ee, lo 1 (by decide) (by decide), l2]
    refine ⟨by rw [eo j 0 (by decide) (by decide)]; exact o0, by rw [eo j 1 (by decide) (by decide)]; exact o1, by rw [eo j 1 (by decide) (by decide)]; exact o2, by rw [eo j 2 (by decide) (by decide), zlife_eq (eo j 1 (by decide) (by decide)) (eo j 3 (by decide) (by decide))]; exact o3, ?_, by rw [eo j 5 (by decide) (by decide)]; exact o5, fun i hi => ?_, fun i hi => ?_⟩
    · rw [eg_jn (by decide)]
      split <;> omega
    · rw [eo j 5 (by decide) (by decide)] at hi
      rw [eo j _ (by omega) (by omega)]
      exact o6 i hi
    · rw [eo j 5 (by decide) (by decide)] at hi
      rw [eo j _ (by omega) (by omega), eo j _ (by omega) (by omega)]
      exact o7 i hi
  · intro j hj hz
    rw [lo 0 (by decide) (by decide)] at hj
    rw [ee, eo j 2 (by decide) (by decide), zlife_eq (eo j 1 (by decide) (by decide)) (eo j 3 (by decide) (by decide))]
    exact i5a j hj hz
  · intro j hj
    rw [lo 0 (by decide) (by decide)] at hj
    rw [ee, ee, eo j 0 (by decide) (by decide), eo (j + 1) 0 (by decide) (by decide)]
    exact i6 j hj
  · rw [lo 0 (by decide) (by decide), zsum_eq (f := fun j => eg (zup (zjoinN g s (g 0)) 2 (g 2 - 1)) j 3) (f2 := fun j => eg g j 3) (g 0) (fun j _ => by show eg (zup (zjoinN g s (g 0)) 2 (g 2 - 1)) j 3 = eg g j 3; rw [ee, eo j 3 (by decide) (by decide)])]
    exact i7
  · intro j hj hj2
    rw [lo 0 (by decide) (by decide)] at hj
    rw [ee, eo j 2 (by decide) (by decide), eo j 3 (by decide) (by decide), eo j 5 (by decide) (by decide)]
    exact i8 j hj hj2
theorem zsum_inc {f f2 : Nat → Nat} : ∀ n, (∀ i, i < n → f2 i ≤ f i + 1) → zsum f2 n ≤ zsum f n + n := by
  intro n
  induction n with
  | zero => intro _; exact Nat.le_refl _
  | succ n ih =>
    intro h
    show zsum f2 n + f2 n ≤ zsum f n + f n + (n + 1)
    have h1 := ih (fun i hi => h i (by omega))
    have h2 := h n (by omega)
    omega
theorem IG.hit {B dn v : Nat} {g : Nat → Nat} (h : IG B g) : IG (B + 20) (zhit g dn v) := by
  obtain ⟨i0, i1, i2, i3, i4, i5, i5a, i6, i7, i8⟩ := h.K
  rw [zhit_N]
  have lo : ∀ j, j < 6 → zhitN g dn v (g 0) j = g j := fun j hj => zhitN_lo hj
  have eo : ∀ j i, i < 12 → i ≠ 2 → i ≠ 3 → eg (zhitN g dn v (g 0)) j i = eg g j i := fun j i hi h2 h3 => by
    rw [eg_hit hi]
    (repeat' split) <;> first | rfl | omega
  have e2 : ∀ j, eg (zhitN g dn v (g 0)) j 2 ≤ eg g j 2 := fun j => by
    rw [eg_hit (by decide)]
    split
    · rw [if_pos rfl]; omega
    · exact Nat.le_refl _
  have e3 : ∀ j, eg g j 3 ≤ eg (zhitN g dn v (g 0)) j 3 ∧ eg (zhitN g dn v (g 0)) j 3 ≤ eg g j 3 + 1 := fun j => by
    rw [eg_hit (by decide)]
    split
    · rw [if_neg (by decide), if_pos rfl]; omega
    · omega
  have el : ∀ j, zlife (eg g j) ≤ zlife (eg (zhitN g dn v (g 0)) j) := fun j => by
    have a1 := e3 j
    unfold zlife
    rw [eo j 1 (by decide) (by decide) (by decide)]
    (repeat' split) <;> omega
  apply IK.G
  refine ⟨by rw [lo 0 (by decide)]; exact i0, by rw [lo 1 (by decide)]; omega, by rw [lo 2 (by decide)]; exact i2, by rw [lo 2 (by decide)]; exact i3, by rw [lo 0 (by decide), lo 1 (by decide), lo 3 (by decide), lo 4 (by decide), lo 5 (by decide)]; exact i4, ?_, ?_, ?_, ?_, ?_⟩
  · intro j hj
    rw [lo 0 (by decide)] at hj
    obtain ⟨o0, o1, o2, o3, o4, o5, o6, o7⟩ := i5 j hj
    rw [lo 1 (by decide), lo 2 (by decide)]
    have a1 := e2 j
    have a2 := el j
    refine ⟨by rw [eo j 0 (by decide) (by decide) (by decide)]; exact o0, by rw [eo j 1 (by decide) (by decide) (by decide)]; exact o1, by rw [eo j 1 (by decide) (by decide) (by decide)]; exact o2, by omega, by rw [eo j 4 (by decide) (by decide) (by decide)]; exact o4, by rw [eo j 5 (by decide) (by decide) (by decide)]; exact o5, fun i hi => ?_, fun i hi => ?_⟩
    · rw [eo j 5 (by decide) (by decide) (by decide)] at hi
      rw [eo j _ (by omega) (by omega) (by omega)]
      exact o6 i hi
    · rw [eo j 5 (by decide) (by decide) (by decide)] at hi
      rw [eo j _ (by omega) (by omega) (by omega), eo j _ (by omega) (by omega) (by omega)]
      exact o7 i hi
  · intro j hj hz
    rw [lo 0 (by decide)] at hj
    have a1 := e2 j
    have a2 := el j
    have a3 := i5a j hj hz
    omega
  · intro j hj
    rw [lo 0 (by decide)] at hj
    rw [eo j 0 (by decide) (by decide) (by decide), eo (j + 1) 0 (by decide) (by decide) (by decide)]
    exact i6 j hj
  · rw [lo 0 (by decide)]
    have a1 := zsum_inc (f := fun j => eg g j 3) (f2 := fun j => eg (zhitN g dn v (g 0)) j 3) (g 0) (fun j _ => (e3 j).2)
    omega
  · intro j hj hj2
    rw [lo 0 (by decide)] at hj
    rw [eo j 5 (by decide) (by decide) (by decide), eg_hit (by decide), if_neg (by omega), eg_hit (by decide), if_neg (by omega)]
    exact i8 j hj hj2
theorem IG.do {B : Nat} {g : Nat → Nat} (h : IG B g) {k : Nat} (hk : k ≤ 9) (x y : Int32) : IG (B + 20) (zdo g k x y).2.2 := by
  have h' : IG (B + 20) g := h.mono (by omega)
  have hu : ∀ g2, IG B g2 → IG (B + 20) g2 := fun g2 h2 => h2.mono (by omega)
  match k, hk with
  | 0, _ =>
    show IG (B + 20) (zopAdd g x).2.2
    unfold zopAdd
    cases hv : zV x 1 9 with
    | false => rw [if_neg (by decide)]; exact h'
    | true =>
      rw [if_pos rfl]
      obtain ⟨v1, v2, v3⟩ := zV_y hv
      have i0 := h.1
      by_cases e : g 0 = 20
      · rw [if_pos e]; exact h'
      · rw [if_neg e]; exact (h.add (by omega) v1 v2).mono (by omega)
  | 1, _ =>
    show IG (B + 20) (zopCode g x y).2.2
    unfold zopCode
    cases hH : zHas g x with
    | false => rw [if_neg (by decide)]; exact h'
    | true =>
      rw [if_pos rfl]
      obtain ⟨f1, f2, f3⟩ := zHas_y hH
      cases hv : zV y 0 999 with
      | false => rw [if_neg (by decide)]; exact h'
      | true =>
        rw [if_pos rfl]
        obtain ⟨v1, v2, v3⟩ := zV_y hv
        by_cases e : zin (eg g (zAt g x)) y.toInt.toNat = true ∨ eg g (zAt g x) 5 = 6
        · rw [if_pos e]; exact h'
        · rw [if_neg e]
          obtain ⟨hw, hl⟩ := h.w f1
          have hz : zin (eg g (zAt g x)) y.toInt.toNat = false := by
            cases q : zin (eg g (zAt g x)) y.toInt.toNat with
            | true => exact absurd (Or.inl q) e
            | false => rfl
          have h5 : eg g (zAt g x) 5 < 6 := by
            have := hw.2.2.2.2.2.1
            have : eg g (zAt g x) 5 ≠ 6 := fun q => e (Or.inr q)
            omega
          exact hu _ (h.put f1 (hw.ins h5 (by omega) hz) (by rw [zins_lo (by decide), zlife_eq (q := eg g (zAt g x)) (zins_lo (by decide)) (zins_lo (by decide))]; exact hl) (zins_lo (by decide)) (zins_lo (by decide)))
  | 2, _ =>
    show IG (B + 20) (zopUncode g x y).2.2
    unfold zopUncode
    cases hH : zHas g x with
    | false => rw [if_neg (by decide)]; exact h'
    | true =>
      rw [if_pos rfl]
      obtain ⟨f1, f2, f3⟩ := zHas_y hH
      cases hv : zV y 0 999 with
      | false => rw [if_neg (by decide)]; exact h'
      | true =>
        rw [if_pos rfl]
        cases hz : zin (eg g (zAt g x)) y.toInt.toNat with
        | false => rw [if_neg (by decide)]; exact h'
        | true =>
          rw [if_pos rfl]
          obtain ⟨hw, hl⟩ := h.w f1
          exact hu _ (h.put f1 hw.del (by rw [zdelm_lo (by decide), zlife_eq (q := eg g (zAt g x)) (zdelm_lo (by decide)) (zdelm_lo (by decide))]; exact hl) (zdelm_lo (by decide)) (zdelm_lo (by decide)))
  | 3, _ =>
    show IG (B + 20) (zopDrop g x).2.2
    unfold zopDrop
    cases hH : zHas g x with
    | false => rw [if_neg (by decide)]; exact h'
    | true =>
      rw [if_pos rfl]
      exact hu _ (h.drop (zHas_y hH).1)
  | 4, _ =>
    show IG (B + 20) (zopTouch g x).2.2
    unfold zopTouch
    cases hH : zHas g x with
    | false => rw [if_neg (by decide)]; exact h'
    | true =>
      rw [if_pos rfl]
      exact hu _ (h.touch (zHas_y hH).1)
  | 5, _ =>
    show IG (B + 20) (zopMerge g x y).2.2
    unfold zopMerge
    by_cases hH : zHas g x = true ∧ zHas g y = true
    · rw [if_pos hH]
      obtain ⟨f1, f2, f3⟩ := zHas_y hH.1
      obtain ⟨e1, e2, e3⟩ := zHas_y hH.2
      by_cases hxy : x = y
      · rw [if_pos hxy]; exact h'
      · rw [if_neg hxy]
        by_cases hbig : 6 < eg g (zAt g x) 5 + eg g (zAt g y) 5 - zshare (eg g (zAt g x)) (eg g (zAt g y))
        · rw [if_pos hbig]; exact h'
        · rw [if_neg hbig]
          have hsz : zabs (eg g (zAt g y)) (eg g (zAt g x)) (eg g (zAt g x) 5) 5 + zshare (eg g (zAt g x)) (eg g (zAt g y)) ≤ eg g (zAt g y) 5 + eg g (zAt g x) 5 := zabs_sz (eg g (zAt g x) 5)
          exact hu _ (h.merge f1 e1 (fun q => hxy (by rw [← f2, ← e2, q])) (by omega))
    · rw [if_neg hH]; exact h'
  | 6, _ =>
    show IG (B + 20) (zopSeg g).2.2
    unfold zopSeg
    have i3 := h.2.2.2.1
    by_cases e : g 2 = 5
    · rw [if_pos e]; exact h'
    · rw [if_neg e]; exact hu _ (h.up2 (by omega) (by omega))
  | 7, _ =>
    show IG (B + 20) (zopJoin g x).2.2
    unfold zopJoin
    cases hv : zV x 0 (g 2 - 1) with
    | false => rw [if_neg (by decide)]; exact h'
    | true =>
      rw [if_pos rfl]
      obtain ⟨v1, v2, v3⟩ := zV_y hv
      have i2 := h.2.2.1
      by_cases e : x.toInt.toNat + 1 = g 2
      · rw [if_pos e]; exact h'
      · rw [if_neg e]; exact hu _ (h.join (by omega))
  | 8, _ =>
    show IG (B + 20) (zopFind g x y).2.2
    unfold zopFind
    split
    · exact h.hit
    · exact h'
  | 9, _ =>
    show IG (B + 20) (zopPass g x).2.2
    unfold zopPass
    split
    · exact hu _ (h.days _)
    · exact h'
  | k + 10, hk => exact absurd hk (by omega)

