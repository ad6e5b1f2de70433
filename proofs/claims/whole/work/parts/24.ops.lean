/-! the numbers that both sides hold: g 0 entries, 1 next id, 2 segments, 3 removed, 4 merged, 5 faded, then twelve for each entry -/
def eg (g : Nat → Nat) (j : Nat) : Nat → Nat := fun i => g (6 + 12 * j + i)
/-- two entries agree, but for what lies behind the codes -/
def zAg (q q2 : Nat → Nat) : Prop := ∀ i, i < 6 + q2 5 → q i = q2 i
theorem zAg.rf {q : Nat → Nat} : zAg q q := fun _ _ => rfl
theorem zAg.e5 {q q2 : Nat → Nat} (h : zAg q q2) : q 5 = q2 5 := h 5 (by omega)
theorem zAg.life {q q2 : Nat → Nat} (h : zAg q q2) : zlife q = zlife q2 := by unfold zlife; rw [h 1 (by omega), h 3 (by omega)]
theorem zAg.many {q q2 : Nat → Nat} (h : zAg q q2) (dn v : Nat) : zmany q dn v = zmany q2 dn v := by
  unfold zmany
  rw [h.e5]
  exact zcnt_eq fun i hi => by rw [h (6 + i) (by omega)]
theorem zAg.inn {q q2 : Nat → Nat} (h : zAg q q2) (v : Nat) : zin q v = zin q2 v := by
  unfold zin
  rw [h.e5]
  exact zany_eq fun i hi => by rw [h (6 + i) (by omega)]
theorem zAg.share {q q2 r r2 : Nat → Nat} (h : zAg q q2) (h2 : zAg r r2) : zshare q r = zshare q2 r2 := by
  unfold zshare
  rw [h.e5]
  exact zcnt_eq fun i hi => by rw [h (6 + i) (by omega), h2.inn]
theorem zAg.score {q q2 : Nat → Nat} (h : zAg q q2) (dn v : Nat) : zscore q dn v = zscore q2 dn v := by
  unfold zscore
  rw [h.many, h 1 (by omega), h 2 (by omega)]
theorem zAg.b {q q2 : Nat → Nat} (h : zAg q q2) (hb : zEb q2) : zEb q := by
  obtain ⟨b0, b1, b2, b3, b4, b5, b6⟩ := hb
  refine ⟨by rw [h 0 (by omega)]; exact b0, by rw [h 1 (by omega)]; exact b1, by rw [h 2 (by omega)]; exact b2, by rw [h 3 (by omega)]; exact b3, by rw [h 4 (by omega)]; exact b4, by rw [h.e5]; exact b5, fun i hi => ?_⟩
  rw [h.e5] at hi
  rw [h (6 + i) (by omega)]
  exact b6 i hi
theorem zAg.pos {q q2 : Nat → Nat} (v : Nat) : ∀ n, (∀ i, i < n → q (6 + i) = q2 (6 + i)) → zpos q v n = zpos q2 v n := by
  intro n
  induction n with
  | zero => intro _; rfl
  | succ n ih =>
    intro h
    unfold zpos
    rw [h n (by omega), ih (fun i hi => h i (by omega))]
theorem zAg.ins {q q2 : Nat → Nat} (h : zAg q q2) (v : Nat) : zAg (zins q v) (zins q2 v) := by
  intro i hi
  rw [zins_5] at hi
  unfold zins
  rw [h.e5, zAg.pos v (q2 5) (fun i hi => h (6 + i) (by omega))]
  have hp := zpos_le q2 v (q2 5)
  by_cases h1 : i = 5
  · rw [if_pos h1, if_pos h1]
  · rw [if_neg h1, if_neg h1]
    by_cases h2 : i < 6 + zpos q2 v (q2 5)
    · rw [if_pos h2, if_pos h2]; exact h i (by omega)
    · rw [if_neg h2, if_neg h2]
      by_cases h3 : i = 6 + zpos q2 v (q2 5)
      · rw [if_pos h3, if_pos h3]
      · rw [if_neg h3, if_neg h3]
        by_cases h4 : i ≤ 6 + q2 5
        · rw [if_pos h4, if_pos h4]; exact h (i - 1) (by omega)
        · omega
theorem zAg.abs {q q2 r r2 : Nat → Nat} (h : zAg q q2) (h2 : zAg r r2) : ∀ n, n ≤ r2 5 → zAg (zabs q r n) (zabs q2 r2 n) := by
  intro n
  induction n with
  | zero => intro _; exact h
  | succ n ih =>
    intro hn
    have h3 := ih (by omega)
    rw [zabs_s, zabs_s, h3.inn, h2 (6 + n) (by omega)]
    split
    · exact h3
    · exact h3.ins _
theorem zAg.mrg {q q2 r r2 : Nat → Nat} (h : zAg q q2) (h2 : zAg r r2) : zAg (zmrg q r) (zmrg q2 r2) := by
  have h3 := h.abs h2 (r2 5) (Nat.le_refl _)
  intro i hi
  have e5 : zmrg q2 r2 5 = zabs q2 r2 (r2 5) 5 := rfl
  rw [e5] at hi
  unfold zmrg
  rw [h2.e5, h 1 (by omega), h 2 (by omega), h 3 (by omega), h2 1 (by omega), h2 2 (by omega), h2 3 (by omega), h3 i hi]
/-- the first place of a property -/
def zfst (p : Nat → Bool) : Nat → Nat
  | 0 => 0
  | n + 1 => if zany p n = true then zfst p n else if p n = true then n else n + 1
theorem zfst_y {p : Nat → Bool} : ∀ n, zany p n = true → zfst p n < n ∧ p (zfst p n) = true ∧ ∀ i, i < zfst p n → p i = false := by
  intro n
  induction n with
  | zero => intro h; cases h
  | succ n ih =>
    intro h
    unfold zfst
    cases hz : zany p n with
    | true =>
      rw [if_pos rfl]
      obtain ⟨h1, h2, h3⟩ := ih hz
      exact ⟨by omega, h2, h3⟩
    | false =>
      have hp : p n = true := by
        have h9 : (zany p n || p n) = true := h
        rw [hz] at h9
        simpa using h9
      rw [if_neg (by decide), if_pos hp]
      exact ⟨by omega, hp, zany_no.mp hz⟩
def zHas (g : Nat → Nat) (x : Int32) : Bool := zany (fun j => nI (eg g j 0) == x) (g 0)
def zAt (g : Nat → Nat) (x : Int32) : Nat := zfst (fun j => nI (eg g j 0) == x) (g 0)
theorem zHas_y {g : Nat → Nat} {x : Int32} (h : zHas g x = true) : zAt g x < g 0 ∧ nI (eg g (zAt g x) 0) = x ∧ ∀ i, i < zAt g x → nI (eg g i 0) ≠ x := by
  obtain ⟨h1, h2, h3⟩ := zfst_y _ h
  have h4 : (nI (eg g (zAt g x) 0) == x) = true := h2
  exact ⟨h1, by simpa using h4, fun i hi => by simpa using h3 i hi⟩
theorem zHas_n {g : Nat → Nat} {x : Int32} (h : zHas g x = false) : ∀ i, i < g 0 → nI (eg g i 0) ≠ x := fun i hi => by simpa using zany_no.mp h i hi
/-- a number in a range -/
def zV (x : Int32) (lo hi : Nat) : Bool := decide ((lo : Int) ≤ x.toInt ∧ x.toInt ≤ (hi : Int))
theorem zV_y {x : Int32} {lo hi : Nat} (h : zV x lo hi = true) : lo ≤ x.toInt.toNat ∧ x.toInt.toNat ≤ hi ∧ x = nI x.toInt.toNat := by
  have h1 := of_decide_eq_true h
  refine ⟨by omega, by omega, ?_⟩
  have h2 : x.toInt = ((x.toInt.toNat : Nat) : Int) := by omega
  apply Int32.toInt_inj.mp
  have h3 : x.toInt < 2 ^ 31 := by have := Int32.toInt_lt x; omega
  rw [nI_toInt (by omega)]
  exact h2
theorem zV_n {x : Int32} {lo hi : Nat} (hhi : hi < 2 ^ 31) (h : zV x lo hi = false) : ¬ ∃ c, lo ≤ c ∧ c ≤ hi ∧ x = nI c := by
  rintro ⟨c, h1, h2, rfl⟩
  have h3 := of_decide_eq_false h
  rw [nI_toInt (by omega)] at h3
  omega
def zPv (x y : Int32) : Bool := decide (0 ≤ x.toInt ∧ x.toInt ≤ 3 ∧ 0 ≤ y.toInt ∧ y.toInt < ((10 ^ x.toInt.toNat : Nat) : Int))
theorem z_nI {x : Int32} (h : 0 ≤ x.toInt) : x = nI x.toInt.toNat := by
  have h2 : x.toInt = ((x.toInt.toNat : Nat) : Int) := by omega
  apply Int32.toInt_inj.mp
  have h3 : x.toInt < 2 ^ 31 := by have := Int32.toInt_lt x; omega
  rw [nI_toInt (by omega)]
  exact h2
theorem zPv_y {x y : Int32} (h : zPv x y = true) : zPf x y x.toInt.toNat y.toInt.toNat := by
  obtain ⟨h1, h2, h3, h4⟩ := of_decide_eq_true h
  exact ⟨z_nI h1, z_nI h3, by omega, by omega⟩
theorem zPv_n {x y : Int32} (h : zPv x y = false) : ¬ ∃ dn v, zPf x y dn v := by
  rintro ⟨dn, v, rfl, rfl, h1, h2⟩
  have h3 := of_decide_eq_false h
  have h4 := (z10 h1).2
  rw [nI_toInt (by omega), nI_toInt (by omega)] at h3
  apply h3
  refine ⟨by omega, by omega, by omega, ?_⟩
  have e : ((dn : Int)).toNat = dn := by omega
  rw [e]
  exact Int.ofNat_lt.mpr h2
/-! what the commands do -/
abbrev zOp : Type := Nat × Nat × (Nat → Nat)
def zput (g : Nat → Nat) (k : Nat) (q : Nat → Nat) : Nat → Nat := fun j => if 6 + 12 * k ≤ j ∧ j < 18 + 12 * k then q (j - (6 + 12 * k)) else g j
def zlv (g : Nat → Nat) (k : Nat) : Nat → Nat := fun j => if j = 0 then g 0 - 1 else if j < 6 + 12 * k then g j else if j < 234 then g (j + 12) else if j < 246 then 0 else g j
def zadd (g : Nat → Nat) (w : Nat) : Nat → Nat := fun j => if j = 0 then g 0 + 1 else if j = 1 then g 1 + 1 else if j = 6 + 12 * g 0 then g 1 else if j = 6 + 12 * g 0 + 1 then w else if j = 6 + 12 * g 0 + 4 then g 2 - 1 else g j
def zopAdd (g : Nat → Nat) (x : Int32) : zOp := if zV x 1 9 = true then (if g 0 = 20 then (2, 0, g) else (0, g 1, zadd g x.toInt.toNat)) else (1, 0, g)
def zopCode (g : Nat → Nat) (x y : Int32) : zOp := if zHas g x = true then (if zV y 0 999 = true then (if zin (eg g (zAt g x)) y.toInt.toNat = true ∨ eg g (zAt g x) 5 = 6 then (3, 0, g) else (0, eg g (zAt g x) 5 + 1, zput g (zAt g x) (zins (eg g (zAt g x)) y.toInt.toNat))) else (2, 0, g)) else (1, 0, g)
def zdelm (q : Nat → Nat) (t : Nat) : Nat → Nat := fun j => if j = 5 then q 5 - 1 else if j < 6 + t then q j else if j < 11 then q (j + 1) else if j = 11 then 0 else q j
def zidx (q : Nat → Nat) (c : Nat) : Nat := zfst (fun i => q (6 + i) == c) (q 5)
def zopUncode (g : Nat → Nat) (x y : Int32) : zOp := if zHas g x = true then (if zV y 0 999 = true then (if zin (eg g (zAt g x)) y.toInt.toNat = true then (0, eg g (zAt g x) 5 - 1, zput g (zAt g x) (zdelm (eg g (zAt g x)) (zidx (eg g (zAt g x)) y.toInt.toNat))) else (3, 0, g)) else (2, 0, g)) else (1, 0, g)
def zopDrop (g : Nat → Nat) (x : Int32) : zOp := if zHas g x = true then (0, g 0 - 1, zup (zlv g (zAt g x)) 3 (g 3 + 1)) else (1, 0, g)
def zopTouch (g : Nat → Nat) (x : Int32) : zOp := if zHas g x = true then (0, eg g (zAt g x) 2, zup g (6 + 12 * zAt g x + 2) 0) else (1, 0, g)
def zopMerge (g : Nat → Nat) (x y : Int32) : zOp := if zHas g x = true ∧ zHas g y = true then (if x = y then (2, 0, g) else if 6 < eg g (zAt g x) 5 + eg g (zAt g y) 5 - zshare (eg g (zAt g x)) (eg g (zAt g y)) then (3, 0, g) else (0, zmrg (eg g (zAt g y)) (eg g (zAt g x)) 5, zup (zlv (zput g (zAt g y) (zmrg (eg g (zAt g y)) (eg g (zAt g x)))) (zAt g x)) 4 (g 4 + 1))) else (1, 0, g)
def zopSeg (g : Nat → Nat) : zOp := if g 2 = 5 then (1, 0, g) else (0, g 2, zup g 2 (g 2 + 1))
def zjoin (g : Nat → Nat) (s : Nat) : Nat → Nat := fun j => if j = 2 then g 2 - 1 else if 6 ≤ j ∧ (j - 6) % 12 = 4 ∧ (j - 6) / 12 < g 0 ∧ s < g j then g j - 1 else g j
def zopJoin (g : Nat → Nat) (x : Int32) : zOp := if zV x 0 (g 2 - 1) = true then (if x.toInt.toNat + 1 = g 2 then (2, 0, g) else (0, g 2 - 1, zjoin g x.toInt.toNat)) else (1, 0, g)
def zhit (g : Nat → Nat) (dn v : Nat) : Nat → Nat := fun j => if 6 ≤ j ∧ (j - 6) / 12 < g 0 ∧ 0 < zmany (eg g ((j - 6) / 12)) dn v then (if (j - 6) % 12 = 2 then 0 else if (j - 6) % 12 = 3 then g j + 1 else g j) else g j
def zres (g : Nat → Nat) (dn v : Nat) : Nat := zcnt (fun k => decide (0 < zmany (eg g k) dn v)) (g 0)
def zopFind (g : Nat → Nat) (x y : Int32) : zOp := if zPv x y = true then (0, zres g x.toInt.toNat y.toInt.toNat, zhit g x.toInt.toNat y.toInt.toNat) else (1, 0, g)
def zage (g : Nat → Nat) : Nat → Nat := fun j => if 6 ≤ j ∧ (j - 6) % 12 = 2 ∧ (j - 6) / 12 < g 0 then g j + 1 else g j
def zbad (g : Nat → Nat) (k : Nat) : Bool := decide (zlife (eg g k) < eg g k 2)
/-- the entries at places 0 to k, from the last to the first: the faded ones leave -/
def zfal (g : Nat → Nat) : Nat → (Nat → Nat)
  | 0 => g
  | k + 1 => if zbad g k = true then zfal (zlv g k) k else zfal g k
def zday (g : Nat → Nat) : Nat → Nat := zup (zfal (zage g) (g 0)) 5 (g 5 + (g 0 - zfal (zage g) (g 0) 0))
def zdays (g : Nat → Nat) : Nat → (Nat → Nat)
  | 0 => g
  | k + 1 => zday (zdays g k)
def zopPass (g : Nat → Nat) (x : Int32) : zOp := if zV x 1 60 = true then (0, zdays g x.toInt.toNat 5 - g 5, zdays g x.toInt.toNat) else (1, 0, g)
/-- a command by its number -/
def zdo (g : Nat → Nat) (k : Nat) (x y : Int32) : zOp := match k with
  | 0 => zopAdd g x
  | 1 => zopCode g x y
  | 2 => zopUncode g x y
  | 3 => zopDrop g x
  | 4 => zopTouch g x
  | 5 => zopMerge g x y
  | 6 => zopSeg g
  | 7 => zopJoin g x
  | 8 => zopFind g x y
  | _ => zopPass g x
/-! what always holds of the numbers; B: a bound that grows -/
def zsum (f : Nat → Nat) : Nat → Nat
  | 0 => 0
  | n + 1 => zsum f n + f n
theorem zsum_le {f : Nat → Nat} {i : Nat} : ∀ n, i < n → f i ≤ zsum f n := by
  intro n
  induction n with
  | zero => intro h; omega
  | succ n ih =>
    intro h
    show _ ≤ zsum f n + f n
    by_cases e : i = n
    · subst e; omega
    · have := ih (by omega); omega
theorem zsum_eq {f f2 : Nat → Nat} : ∀ n, (∀ i, i < n → f i = f2 i) → zsum f n = zsum f2 n := by
  intro n
  induction n with
  | zero => intro _; rfl
  | succ n ih => intro h; show zsum f n + f n = zsum f2 n + f2 n; rw [ih (fun i hi => h i (by omega)), h n (by omega)]
def zOk (g : Nat → Nat) (j : Nat) : Prop := eg g j 0 < g 1 ∧ 1 ≤ eg g j 1 ∧ eg g j 1 ≤ 9 ∧ eg g j 2 ≤ zlife (eg g j) ∧ eg g j 4 < g 2 ∧ eg g j 5 ≤ 6 ∧ (∀ i, i < eg g j 5 → eg g j (6 + i) < 1000) ∧ (∀ i, i + 1 < eg g j 5 → eg g j (6 + i) < eg g j (6 + (i + 1)))
def IG (B : Nat) (g : Nat → Nat) : Prop := g 0 ≤ 20 ∧ g 1 ≤ B ∧ 1 ≤ g 2 ∧ g 2 ≤ 5 ∧ g 1 = g 0 + g 3 + g 4 + g 5 ∧ (∀ j, j < g 0 → zOk g j) ∧ (∀ j, j + 1 < g 0 → eg g j 0 < eg g (j + 1) 0) ∧ zsum (fun j => eg g j 3) (g 0) ≤ B ∧ (∀ j, g 0 ≤ j → j < 20 → eg g j 2 = 0 ∧ eg g j 3 = 0 ∧ eg g j 5 = 0)
theorem zmono {f : Nat → Nat} {n : Nat} (h : ∀ j, j + 1 < n → f j < f (j + 1)) : ∀ i j, i < j → j < n → f i < f j := by
  intro i j
  induction j with
  | zero => intro h1; omega
  | succ j ih =>
    intro h1 h2
    have h3 := h j h2
    by_cases e : i = j
    · subst e; exact h3
    · exact Nat.lt_trans (ih (by omega) (by omega)) h3
theorem IG.ids {B : Nat} {g : Nat → Nat} (h : IG B g) : ∀ i j, i < j → j < g 0 → eg g i 0 < eg g j 0 := zmono (f := fun j => eg g j 0) h.2.2.2.2.2.2.1
theorem IG.ne {B : Nat} {g : Nat → Nat} (h : IG B g) {i j : Nat} (hi : i < g 0) (hj : j < g 0) (hij : i ≠ j) : eg g i 0 ≠ eg g j 0 := by
  rcases Nat.lt_or_gt_of_ne hij with h1 | h1
  · have := h.ids i j h1 hj; omega
  · have := h.ids j i h1 hi; omega
theorem IG.b {B : Nat} {g : Nat → Nat} (h : IG B g) (hB : B < 2 ^ 20) {j : Nat} (hj : j < g 0) : zEb (eg g j) := by
  obtain ⟨i0, i1, i2, i3, i4, i5, i6, i7, i8⟩ := h
  obtain ⟨o0, o1, o2, o3, o4, o5, o6, o7⟩ := i5 j hj
  have h1 := zsum_le (f := fun j => eg g j 3) (g 0) hj
  have h2 := zlife_le (eg g j)
  exact ⟨by omega, o2, by omega, by omega, by omega, o5, o6⟩
def zFg (g : Nat → Nat) : Nat → Nat := fun j => if j = 1 then g 0 else if j = 2 then g 1 else if j = 3 then g 2 else if j = 4 then g 1 else if j = 5 then g 3 else if j = 6 then g 4 else g 5
def CR (h : zH) (r : Nat) (g : Nat → Nat) : Prop := ∃ (p : Nat → Nat) (Q : Nat → Nat → Nat), CH h r p Q (zFg g) ∧ PM p ∧ ∀ j, j < g 0 → zAg (Q (p j)) (eg g j)
theorem CR.fr {h h1 : zH} {r r2 m : Nat} {g : Nat → Nat} (hC : CR h r g) (hf : zfr r2 m h h1) (hd : r + 42 ≤ r2 ∨ r2 + m ≤ r) : CR h1 r g := by
  obtain ⟨p, Q, h1, h2, h3⟩ := hC
  exact ⟨p, Q, h1.fr hf hd, h2, h3⟩
/-- what a refused command answers -/
def zneg (k e : Nat) : Int32 := if k = 0 then (if e = 1 then -2 else -3) else if k = 6 then -3 else if k = 7 then (if e = 1 then -4 else -3) else if k = 8 ∨ k = 9 then -2 else if e = 1 then -1 else if e = 2 then -2 else -3
def zans (k : Nat) (o : zOp) : Int32 := if o.1 = 0 then nI o.2.1 else zneg k o.1
/-- a command's end: its answer, nothing but the contents changed -/
def zCq (r : Nat) (h : zH) (n k : Nat) (o : zOp) : zQ := fun oc h1 n1 => oc = .inl (some (.int (zans k o))) ∧ n1 = n ∧ zfr r 42 h h1 ∧ CR h1 r o.2.2

