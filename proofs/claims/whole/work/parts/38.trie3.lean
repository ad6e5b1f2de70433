/-! what a built trie holds -/
def zeh (q : Nat → Nat) (j x : Nat) : Bool := zany (fun i => zpth (q (6 + i)) x) j
def zEn (g : Nat → Nat) (i x : Nat) : Nat := zcnt (fun k => zeh (eg g k) (eg g k 5) x) i
def zsn (g : Nat → Nat) (i j c : Nat) : Bool := zany (fun k => zin (eg g k) c) i || zany (fun m => eg g i (6 + m) == c) j
def zEj (g : Nat → Nat) (i j : Nat) : Nat → Nat := fun x => zEn g i x + zb (zeh (eg g i) j x)
def zCj (g : Nat → Nat) (i j : Nat) : Nat → Nat := fun x => zcnt (fun c => zpth c x && zsn g i j c) 1000
theorem zcom_1 {a b c L : Nat} (h1 : a ≤ b) (h2 : b < c) (hL : L ≤ 3) (h : znd a L = znd c L) : L ≤ zcom b c := by
  match L, hL with
  | 0, _ => exact Nat.zero_le _
  | 1, _ =>
    have h9 : 1 + a / 100 = 1 + c / 100 := h
    unfold zcom
    (repeat' split) <;> omega
  | 2, _ =>
    have h9 : 11 + a / 10 = 11 + c / 10 := h
    unfold zcom
    (repeat' split) <;> omega
  | 3, _ =>
    have h9 : 111 + a = 111 + c := h
    omega
  | k + 4, hL => exact absurd hL (by omega)
theorem zcom_2 {b c L : Nat} (hL : L ≤ zcom b c) (h3 : L ≤ 3) : znd b L = znd c L := by
  unfold zcom at hL
  match L, h3 with
  | 0, _ => rfl
  | 1, _ =>
    show 1 + b / 100 = 1 + c / 100
    (repeat' split at hL) <;> omega
  | 2, _ =>
    show 11 + b / 10 = 11 + c / 10
    (repeat' split at hL) <;> omega
  | 3, _ =>
    show 111 + b = 111 + c
    (repeat' split at hL) <;> omega
  | k + 4, h3 => exact absurd h3 (by omega)
def zmj (q : Nat → Nat) (j : Nat) : Nat := if j = 0 then 0 else zcom (q (6 + (j - 1))) (q (6 + j)) + 1
theorem zEj_s {B : Nat} {g : Nat → Nat} (hI : IG B g) {i j : Nat} (hi : i < g 0) (hj : j < eg g i 5) : zbump (zEj g i j) (eg g i (6 + j)) (zmj (eg g i) j) 4 = zEj g i (j + 1) := by
  have hO := hI.2.2.2.2.2.1 i hi
  have hc := hO.2.2.2.2.2.2.1 j hj
  have hmn := zmono (f := fun i2 => eg g i (6 + i2)) hO.2.2.2.2.2.2.2
  funext x
  have hL := zlev_le (x := x)
  have hs : zeh (eg g i) (j + 1) x = (zeh (eg g i) j x || zpth (eg g i (6 + j)) x) := rfl
  unfold zbump
  show (if _ then zEn g i x + zb (zeh (eg g i) j x) + 1 else zEn g i x + zb (zeh (eg g i) j x)) = zEn g i x + zb (zeh (eg g i) (j + 1) x)
  rw [hs]
  cases hp : zpth (eg g i (6 + j)) x with
  | false =>
    rw [if_neg (by rintro ⟨q, -⟩; cases q), Bool.or_false]
  | true =>
    rw [Bool.or_true]
    have hx : x = znd (eg g i (6 + j)) (zlev x) := by
      unfold zpth at hp
      simpa using hp
    have key : zmj (eg g i) j ≤ zlev x ↔ zeh (eg g i) j x = false := by
      by_cases e : j = 0
      · subst e
        exact ⟨fun _ => rfl, fun _ => by unfold zmj; rw [if_pos rfl]; omega⟩
      · unfold zmj
        rw [if_neg e]
        have hb : eg g i (6 + (j - 1)) < eg g i (6 + j) := hmn (j - 1) j (by omega) hj
        constructor
        · intro h1
          apply zany_no.mpr
          intro k hk
          cases hq : zpth (eg g i (6 + k)) x with
          | false => rfl
          | true =>
            exfalso
            have hx2 : x = znd (eg g i (6 + k)) (zlev x) := by
              unfold zpth at hq
              simpa using hq
            have hab : eg g i (6 + k) ≤ eg g i (6 + (j - 1)) := by
              by_cases e2 : k = j - 1
              · rw [e2]; exact Nat.le_refl _
              · exact Nat.le_of_lt (hmn k (j - 1) (by omega) (by omega))
            have h9 := zcom_1 hab hb hL (hx2.symm.trans hx)
            omega
        · intro h1
          have h2 := zany_no.mp h1 (j - 1) (by omega)
          refine Nat.not_le.mp fun h3 => ?_
          have h4 := zcom_2 h3 hL
          have h5 : zpth (eg g i (6 + (j - 1))) x = true := by
            unfold zpth
            rw [h4, ← hx]
            exact beq_self_eq_true _
          rw [h5] at h2
          cases h2
    cases hz : zeh (eg g i) j x with
    | false =>
      rw [if_pos ⟨rfl, by omega, key.mpr hz⟩]
      rfl
    | true =>
      rw [if_neg (fun q => by have := key.mp q.2.2; rw [hz] at this; cases this)]
theorem zEj_n {g : Nat → Nat} {i : Nat} : zEj g i (eg g i 5) = zEj g (i + 1) 0 := by
  funext x
  show zcnt (fun k => zeh (eg g k) (eg g k 5) x) i + zb (zeh (eg g i) (eg g i 5) x) = zcnt (fun k => zeh (eg g k) (eg g k 5) x) (i + 1) + 0
  cases hz : zeh (eg g i) (eg g i 5) x with
  | false => rw [zcnt_f (p := fun k => zeh (eg g k) (eg g k 5) x) hz]; rfl
  | true => rw [zcnt_t (p := fun k => zeh (eg g k) (eg g k 5) x) hz]; rfl
theorem zEj_b {g : Nat → Nat} {i j x : Nat} : zEj g i j x ≤ i + 1 := by
  have h1 := zcnt_le (fun k => zeh (eg g k) (eg g k 5) x) i
  have h2 : zEj g i j x = zcnt (fun k => zeh (eg g k) (eg g k 5) x) i + zb (zeh (eg g i) j x) := rfl
  have h3 : zb (zeh (eg g i) j x) ≤ 1 := by cases zeh (eg g i) j x <;> decide
  omega
theorem zpth_leaf {a c : Nat} : zpth a (111 + c) = (a == c) := by
  have h1 : zlev (111 + c) = 3 := by
    unfold zlev
    rw [if_neg (by omega), if_neg (by omega), if_neg (by omega)]
  unfold zpth
  rw [h1]
  show (111 + c == 111 + a) = (a == c)
  rw [Bool.eq_iff_iff]
  simp
  omega
theorem zeh_leaf {q : Nat → Nat} {j c : Nat} : zeh q j (111 + c) = zany (fun i => q (6 + i) == c) j := zany_eq fun i _ => zpth_leaf
theorem zEj_new {g : Nat → Nat} {i j c : Nat} : zEj g i j (111 + c) = 0 ↔ zsn g i j c = false := by
  have e1 : zEj g i j (111 + c) = zcnt (fun k => zin (eg g k) c) i + zb (zany (fun m => eg g i (6 + m) == c) j) := by
    show zcnt (fun k => zeh (eg g k) (eg g k 5) (111 + c)) i + zb (zeh (eg g i) j (111 + c)) = _
    rw [zeh_leaf, zcnt_eq (p2 := fun k => zin (eg g k) c) (fun k _ => zeh_leaf)]
  rw [e1]
  unfold zsn
  have h2 := zcnt_pos (p := fun k => zin (eg g k) c) (n := i)
  cases h3 : zany (fun k => zin (eg g k) c) i with
  | true =>
    have h4 := h2.mpr h3
    rw [Bool.true_or]
    constructor
    · intro q; omega
    · intro q; cases q
  | false =>
    have h4 : ¬ 0 < zcnt (fun k => zin (eg g k) c) i := fun q => by have := h2.mp q; rw [h3] at this; cases this
    rw [Bool.false_or]
    cases h5 : zany (fun m => eg g i (6 + m) == c) j with
    | true =>
      constructor
      · intro q
        have : zb true = 1 := rfl
        omega
      · intro q; cases q
    | false =>
      constructor
      · intro _; rfl
      · intro _
        have : zb false = 0 := rfl
        omega
theorem zcnt_more {p p2 : Nat → Bool} {c : Nat} (h1 : p c = false) (h2 : p2 c = true) (h3 : ∀ i, i ≠ c → p2 i = p i) : ∀ n, zcnt p2 n = zcnt p n + (if c < n then 1 else 0) := by
  intro n
  induction n with
  | zero => rfl
  | succ n ih =>
    by_cases e : n = c
    · subst e
      rw [zcnt_t h2, zcnt_f h1, ih, if_neg (by omega), if_pos (by omega)]
    · have e2 := h3 n e
      cases hp : p n with
      | true =>
        rw [hp] at e2
        rw [zcnt_t e2, zcnt_t hp, ih]
        by_cases e3 : c < n
        · rw [if_pos e3, if_pos (by omega)]
        · rw [if_neg e3, if_neg (by omega)]
      | false =>
        rw [hp] at e2
        rw [zcnt_f e2, zcnt_f hp, ih]
        by_cases e3 : c < n
        · rw [if_pos e3, if_pos (by omega)]
        · rw [if_neg e3, if_neg (by omega)]
theorem zsn_s {g : Nat → Nat} {i j c : Nat} : zsn g i (j + 1) c = (zsn g i j c || eg g i (6 + j) == c) := by
  show (_ || (_ || _)) = _
  rw [← Bool.or_assoc]
  rfl
theorem zCj_s {B : Nat} {g : Nat → Nat} (hI : IG B g) {i j : Nat} (hi : i < g 0) (hj : j < eg g i 5) : (if zEj g i j (111 + eg g i (6 + j)) = 0 then zbump (zCj g i j) (eg g i (6 + j)) 0 4 else zCj g i j) = zCj g i (j + 1) := by
  have hO := hI.2.2.2.2.2.1 i hi
  have hc := hO.2.2.2.2.2.2.1 j hj
  generalize hcc : eg g i (6 + j) = c at hc ⊢
  have hss : ∀ c2, zsn g i (j + 1) c2 = (zsn g i j c2 || c == c2) := fun c2 => by rw [zsn_s, hcc]
  by_cases e : zEj g i j (111 + c) = 0
  · rw [if_pos e]
    have hn := zEj_new.mp e
    funext x
    have hL := zlev_le (x := x)
    unfold zbump
    show (if _ then zcnt (fun c2 => zpth c2 x && zsn g i j c2) 1000 + 1 else zcnt (fun c2 => zpth c2 x && zsn g i j c2) 1000) = zcnt (fun c2 => zpth c2 x && zsn g i (j + 1) c2) 1000
    cases hp : zpth c x with
    | true =>
      rw [if_pos ⟨rfl, by omega, Nat.zero_le _⟩]
      have h9 := zcnt_more (p := fun c2 => zpth c2 x && zsn g i j c2) (p2 := fun c2 => zpth c2 x && zsn g i (j + 1) c2) (c := c) (by show (zpth c x && zsn g i j c) = false; rw [hn, Bool.and_false]) (by show (zpth c x && zsn g i (j + 1) c) = true; rw [hss, hp, beq_self_eq_true, Bool.or_true]; rfl) (fun c2 h2 => by
        show (zpth c2 x && zsn g i (j + 1) c2) = (zpth c2 x && zsn g i j c2)
        rw [hss, show (c == c2) = false by simpa using fun q => h2 q.symm, Bool.or_false]) 1000
      rw [h9, if_pos hc]
    | false =>
      rw [if_neg (by rintro ⟨q, -⟩; cases q)]
      exact zcnt_eq fun c2 _ => by
        rw [hss]
        by_cases h2 : c = c2
        · subst h2
          rw [hp, Bool.false_and, Bool.false_and]
        · rw [show (c == c2) = false by simpa using h2, Bool.or_false]
  · rw [if_neg e]
    have hn : zsn g i j c = true := by
      cases q : zsn g i j c with
      | true => rfl
      | false => exact absurd (zEj_new.mpr q) e
    funext x
    exact zcnt_eq fun c2 _ => by
      rw [hss]
      by_cases h2 : c = c2
      · subst h2
        rw [hn, Bool.true_or]
      · rw [show (c == c2) = false by simpa using h2, Bool.or_false]
theorem zCj_n {g : Nat → Nat} {i : Nat} : zCj g i (eg g i 5) = zCj g (i + 1) 0 := by
  funext x
  refine zcnt_eq fun c _ => ?_
  have e : zsn g i (eg g i 5) c = zsn g (i + 1) 0 c := by
    show (zany (fun k => zin (eg g k) c) i || zin (eg g i) c) = ((zany (fun k => zin (eg g k) c) i || zin (eg g i) c) || false)
    rw [Bool.or_false]
  rw [e]
theorem zEj_0 {g : Nat → Nat} : zEj g 0 0 = fun _ => 0 := rfl
theorem zCj_0 {g : Nat → Nat} : zCj g 0 0 = fun _ => 0 := by
  funext x
  have h1 : ∀ n, zcnt (fun c => zpth c x && zsn g 0 0 c) n = 0 := by
    intro n
    induction n with
    | zero => rfl
    | succ n ih => rw [zcnt_f (p := fun c => zpth c x && zsn g 0 0 c) (by show (zpth n x && false) = false; rw [Bool.and_false]), ih]
  exact h1 1000
theorem zmt_0 : zmt (-1) 0 := by
  intro k hk
  match k, hk with
  | 0, _ => decide
  | 1, _ => decide
  | 2, _ => decide
  | 3, _ => decide
  | k + 4, hk => exact absurd hk (by omega)
theorem zmt_s {a : Nat} (ha : a ≤ 3) : zmt (nI a) (a + 1) := by
  intro k hk
  rw [nI_leI (by omega) (by omega)]
  omega
theorem zcom_le {a b : Nat} : zcom a b ≤ 3 := by unfold zcom; (repeat' split) <;> omega

