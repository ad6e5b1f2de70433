/-! what the trie answers -/
theorem zhas_3 {a c : Nat} : zhas a 3 c = (a == c) := by
  unfold zhas
  rw [show 3 - 3 = 0 from rfl, Nat.pow_zero, Nat.div_one]
theorem zpth_has {c dn v : Nat} (hc : c < 1000) (h1 : dn ≤ 3) (h2 : v < 10 ^ dn) : zpth c (ztn dn v) = zhas c dn v := by
  match dn, h1 with
  | 0, _ =>
    have e1 : zpth c (ztn 0 v) = true := rfl
    have e2 : zhas c 0 v = true := by
      show (c / 10 ^ 3 == v) = true
      simp
      omega
    rw [e1, e2]
  | 1, _ =>
    have e1 : zlev (1 + v) = 1 := by unfold zlev; rw [if_neg (by omega), if_pos (by omega)]
    show (1 + v == znd c (zlev (1 + v))) = (c / 10 ^ 2 == v)
    rw [e1]
    show (1 + v == 1 + c / 100) = (c / 100 == v)
    rw [Bool.eq_iff_iff, beq_iff_eq, beq_iff_eq]
    omega
  | 2, _ =>
    have e1 : zlev (11 + v) = 2 := by unfold zlev; rw [if_neg (by omega), if_neg (by omega), if_pos (by omega)]
    show (11 + v == znd c (zlev (11 + v))) = (c / 10 ^ 1 == v)
    rw [e1]
    show (11 + v == 11 + c / 10) = (c / 10 == v)
    rw [Bool.eq_iff_iff, beq_iff_eq, beq_iff_eq]
    omega
  | 3, _ =>
    rw [zhas_3]
    exact zpth_leaf
  | k + 4, h1 => exact absurd h1 (by omega)
theorem zcnt_dec {p : Nat → Bool} {n : Nat} : zany p n = decide (0 < zcnt p n) := by
  rw [Bool.eq_iff_iff, decide_eq_true_iff]
  exact zcnt_pos.symm
theorem zmany_dec {q : Nat → Nat} {dn v : Nat} : decide (0 < zmany q dn v) = zany (fun i => zhas (q (6 + i)) dn v) (q 5) := zcnt_dec.symm
theorem zin_dec {q : Nat → Nat} {c : Nat} : decide (0 < zmany q 3 c) = zin q c := by
  rw [zmany_dec]
  exact zany_eq fun i _ => zhas_3
theorem zE_res {B : Nat} {g : Nat → Nat} (hI : IG B g) {dn v : Nat} (h1 : dn ≤ 3) (h2 : v < 10 ^ dn) : zEj g (g 0) 0 (ztn dn v) = zres g dn v := by
  show zcnt (fun k => zeh (eg g k) (eg g k 5) (ztn dn v)) (g 0) + 0 = zcnt (fun k => decide (0 < zmany (eg g k) dn v)) (g 0)
  refine zcnt_eq fun k hk => ?_
  rw [zmany_dec]
  exact zany_eq fun i hi => zpth_has ((hI.2.2.2.2.2.1 k hk).2.2.2.2.2.2.1 i hi) h1 h2
/-- how many codes have a prefix -/
def zcod (g : Nat → Nat) (dn v : Nat) : Nat := zcnt (fun c => zhas c dn v && decide (0 < zres g 3 c)) 1000
theorem zsn_res {g : Nat → Nat} {c : Nat} : zsn g (g 0) 0 c = decide (0 < zres g 3 c) := by
  show (zany (fun k => zin (eg g k) c) (g 0) || false) = decide (0 < zcnt (fun k => decide (0 < zmany (eg g k) 3 c)) (g 0))
  rw [Bool.or_false, ← zcnt_dec]
  exact zany_eq fun k _ => zin_dec.symm
theorem zC_cod {g : Nat → Nat} {dn v : Nat} (h1 : dn ≤ 3) (h2 : v < 10 ^ dn) : zCj g (g 0) 0 (ztn dn v) = zcod g dn v := by
  refine zcnt_eq fun c hc => ?_
  rw [zsn_res, zpth_has hc h1 h2]
theorem zres_y {g : Nat → Nat} {dn v : Nat} : 0 < zres g dn v ↔ ∃ k, k < g 0 ∧ ∃ i, i < eg g k 5 ∧ zhas (eg g k (6 + i)) dn v = true := by
  unfold zres
  rw [zcnt_pos, zany_iff]
  constructor
  · rintro ⟨k, hk, h⟩
    rw [zmany_dec] at h
    obtain ⟨i, hi, h2⟩ := zany_iff.mp h
    exact ⟨k, hk, i, hi, h2⟩
  · rintro ⟨k, hk, i, hi, h2⟩
    refine ⟨k, hk, ?_⟩
    rw [zmany_dec]
    exact zany_iff.mpr ⟨i, hi, h2⟩
theorem zcod_y {B : Nat} {g : Nat → Nat} (hI : IG B g) {dn v : Nat} : 0 < zcod g dn v ↔ 0 < zres g dn v := by
  unfold zcod
  rw [zcnt_pos, zany_iff]
  constructor
  · rintro ⟨c, hc, h⟩
    obtain ⟨h1, h2⟩ := Bool.and_eq_true_iff.mp h
    obtain ⟨k, hk, i, hi, h3⟩ := zres_y.mp (of_decide_eq_true h2)
    rw [zhas_3, beq_iff_eq] at h3
    exact zres_y.mpr ⟨k, hk, i, hi, by rw [h3]; exact h1⟩
  · intro h
    obtain ⟨k, hk, i, hi, h3⟩ := zres_y.mp h
    refine ⟨eg g k (6 + i), (hI.2.2.2.2.2.1 k hk).2.2.2.2.2.2.1 i hi, ?_⟩
    rw [h3, Bool.true_and, decide_eq_true_iff]
    exact zres_y.mpr ⟨k, hk, i, hi, by rw [zhas_3]; exact beq_self_eq_true _⟩
theorem zcod_le {g : Nat → Nat} {dn v : Nat} : zcod g dn v ≤ 1000 := zcnt_le _ _
theorem zCj_le {g : Nat → Nat} {i j x : Nat} : zCj g i j x ≤ 1000 := zcnt_le _ _
theorem zres_le {g : Nat → Nat} {dn v : Nat} : zres g dn v ≤ g 0 := zcnt_le _ _
/-- how many digits can follow a prefix -/
def zbr (g : Nat → Nat) (dn v : Nat) : Nat := zcnt (fun k => decide (0 < zres g (dn + 1) (10 * v + k))) 10
theorem ztn_ch {dn v k : Nat} (h1 : dn ≤ 2) (h2 : v < 10 ^ dn) (hk : k < 10) : 10 * ztn dn v + k + 1 = ztn (dn + 1) (10 * v + k) := by
  match dn, h1 with
  | 0, _ =>
    have : v < 1 := h2
    show 10 * 0 + k + 1 = 1 + (10 * v + k)
    omega
  | 1, _ => show 10 * (1 + v) + k + 1 = 11 + (10 * v + k); omega
  | 2, _ => show 10 * (11 + v) + k + 1 = 111 + (10 * v + k); omega
  | k + 3, h1 => exact absurd h1 (by omega)
theorem ztn_in {dn v : Nat} (h1 : dn ≤ 2) (h2 : v < 10 ^ dn) : ztn dn v < 111 := by
  match dn, h1 with
  | 0, _ => show 0 < 111; decide
  | 1, _ =>
    have : v < 10 := h2
    show 1 + v < 111; omega
  | 2, _ =>
    have : v < 100 := h2
    show 11 + v < 111; omega
  | k + 3, h1 => exact absurd h1 (by omega)
theorem zC_br {B : Nat} {g : Nat → Nat} (hI : IG B g) {dn v : Nat} (h1 : dn ≤ 2) (h2 : v < 10 ^ dn) : zcnt (fun q => decide (0 < zCj g (g 0) 0 (10 * ztn dn v + q + 1))) 10 = zbr g dn v := by
  refine zcnt_eq fun k hk => ?_
  have h3 : 10 * v + k < 10 ^ (dn + 1) := by rw [Nat.pow_succ]; omega
  rw [ztn_ch h1 h2 hk, zC_cod (by omega) h3]
  exact decide_eq_decide.mpr (zcod_y hI)
/-- how many digits of a code are met -/
def zdep (g : Nat → Nat) (c : Nat) : Nat := if 0 < zres g 3 c then 3 else if 0 < zres g 2 (c / 10) then 2 else if 0 < zres g 1 (c / 100) then 1 else 0
theorem zres_up1 {g : Nat → Nat} {c : Nat} (h : 0 < zres g 3 c) : 0 < zres g 2 (c / 10) := by
  obtain ⟨k, hk, i, hi, h3⟩ := zres_y.mp h
  rw [zhas_3, beq_iff_eq] at h3
  refine zres_y.mpr ⟨k, hk, i, hi, ?_⟩
  rw [h3]
  exact beq_self_eq_true _
theorem zres_up2 {g : Nat → Nat} {c : Nat} (h : 0 < zres g 2 (c / 10)) : 0 < zres g 1 (c / 100) := by
  obtain ⟨k, hk, i, hi, h3⟩ := zres_y.mp h
  have h4 : eg g k (6 + i) / 10 = c / 10 := by
    have h5 : (eg g k (6 + i) / 10 ^ 1 == c / 10) = true := h3
    simpa using h5
  refine zres_y.mpr ⟨k, hk, i, hi, ?_⟩
  show (eg g k (6 + i) / 10 ^ 2 == c / 100) = true
  rw [beq_iff_eq]
  omega
theorem zC_dep {B : Nat} {g : Nat → Nat} (hI : IG B g) {c : Nat} (hc : c < 1000) : zreach (zCj g (g 0) 0) c = zdep g c := by
  have e1 : zCj g (g 0) 0 (znd c 1) = zcod g 1 (c / 100) := zC_cod (dn := 1) (v := c / 100) (by decide) (by omega)
  have e2 : zCj g (g 0) 0 (znd c 2) = zcod g 2 (c / 10) := zC_cod (dn := 2) (v := c / 10) (by decide) (by omega)
  have e3 : zCj g (g 0) 0 (znd c 3) = zcod g 3 c := zC_cod (dn := 3) (v := c) (by decide) (by omega)
  have y1 := zcod_y hI (dn := 1) (v := c / 100)
  have y2 := zcod_y hI (dn := 2) (v := c / 10)
  have y3 := zcod_y hI (dn := 3) (v := c)
  have u1 := zres_up1 (g := g) (c := c)
  have u2 := zres_up2 (g := g) (c := c)
  unfold zreach zdep
  rw [e1, e2, e3]
  (repeat' split) <;> omega
theorem zC_com {B : Nat} {g : Nat → Nat} (hI : IG B g) : zcmF (fun q => zEj g (g 0) 0 (111 + q)) 1000 = zcmF (fun c => zres g 3 c) 1000 := zcmF_eq 1000 fun i hi => zE_res hI (dn := 3) (v := i) (by decide) (by omega)

