/-! the ranking -/
theorem zr_iald {Γ : zG} {l : Launch} {M : zM} {d mc ms : Nat} {FN : List Frame → Array Value → State → State → Prop} {pc : Nat} {ls : List (Option Value)} {st : List Value} {h : zH} {n k ks : Nat} {a N i : Nat} {f : Nat → Int32} (hd : decode (zby M) pc = .ok (.iaload, 1)) (hh : h a = some (.inl (0, N, .inl f))) (hi : i < N) (hN : N < 2 ^ 31) (K : Z Γ l M d mc ms FN (pc + 1) ls (.int (f i) :: st) h n k ks) : Z Γ l M d mc ms FN pc ls (.int (nI i) :: .ref a :: st) h n k ks := zs_iald hd hh (vp_in_nI hi hN) (by rw [nI_clamp (Nat.lt_trans hi hN)]; exact K)
theorem zr_iast {Γ : zG} {l : Launch} {M : zM} {d mc ms : Nat} {FN : List Frame → Array Value → State → State → Prop} {pc : Nat} {ls : List (Option Value)} {st : List Value} {h : zH} {n k ks : Nat} {a N i : Nat} {x : Int32} {f : Nat → Int32} (hd : decode (zby M) pc = .ok (.iastore, 1)) (hh : h a = some (.inl (0, N, .inl f))) (hi : i < N) (hN : N < 2 ^ 31) (K : Z Γ l M d mc ms FN (pc + 1) ls st (zu h a (.inl (0, N, .inl (upd f i x)))) n k ks) : Z Γ l M d mc ms FN pc ls (.int x :: .int (nI i) :: .ref a :: st) h n k ks := zs_iast hd hh (vp_in_nI hi hN) (by rw [nI_clamp (Nat.lt_trans hi hN)]; exact K)
theorem zcnt_sub {p p2 : Nat → Bool} : ∀ n, (∀ i, i < n → p i = true → p2 i = true) → zcnt p n ≤ zcnt p2 n := by
  intro n
  induction n with
  | zero => intro _; exact Nat.le_refl _
  | succ n ih =>
    intro h
    have h1 := ih (fun i hi => h i (by omega))
    cases hp : p n with
    | true => rw [zcnt_t hp, zcnt_t (h n (by omega) hp)]; omega
    | false =>
      rw [zcnt_f hp]
      exact Nat.le_trans h1 (zcnt_le2 p2 (Nat.le_succ n))
theorem zcnt_sub2 {p p2 : Nat → Bool} {c : Nat} : ∀ n, (∀ i, i < n → p i = true → p2 i = true) → c < n → p c = false → p2 c = true → zcnt p n < zcnt p2 n := by
  intro n
  induction n with
  | zero => intro _ h; omega
  | succ n ih =>
    intro h hc h1 h2
    by_cases e : c = n
    · subst e
      rw [zcnt_f h1, zcnt_t h2]
      exact Nat.lt_succ_of_le (zcnt_sub c (fun i hi => h i (by omega)))
    · have h3 := ih (fun i hi => h i (by omega)) (by omega) h1 h2
      cases hp : p n with
      | true => rw [zcnt_t hp, zcnt_t (h n (by omega) hp)]; omega
      | false =>
        rw [zcnt_f hp]
        exact Nat.lt_of_lt_of_le h3 (zcnt_le2 p2 (Nat.le_succ n))
/-- stands o before k -/
def zbt (sc : Nat → Int) (o k : Nat) : Bool := decide (sc k < sc o ∨ (sc o = sc k ∧ o < k))
def zrk (mt : Nat → Bool) (sc : Nat → Int) (i k : Nat) : Nat := zcnt (fun o => mt o && zbt sc o k) i
theorem zrk_y {mt : Nat → Bool} {sc : Nat → Int} {i k : Nat} (hm : mt i = true) (hk : k < i) : zrk mt sc (i + 1) k = zrk mt sc i k + (if sc k < sc i then 1 else 0) := by
  unfold zrk
  by_cases e : sc k < sc i
  · rw [if_pos e, zcnt_t (p := fun o => mt o && zbt sc o k)]
    show (mt i && zbt sc i k) = true
    rw [hm, Bool.true_and]
    exact decide_eq_true (Or.inl e)
  · rw [if_neg e, zcnt_f (p := fun o => mt o && zbt sc o k)]
    · rfl
    · show (mt i && zbt sc i k) = false
      rw [hm, Bool.true_and]
      exact decide_eq_false (by omega)
theorem zrk_n {mt : Nat → Bool} {sc : Nat → Int} {i k : Nat} (hm : mt i = false) : zrk mt sc (i + 1) k = zrk mt sc i k := by
  unfold zrk
  rw [zcnt_f (p := fun o => mt o && zbt sc o k)]
  show (mt i && zbt sc i k) = false
  rw [hm, Bool.false_and]
theorem zrk_o {mt : Nat → Bool} {sc : Nat → Int} {i : Nat} : zrk mt sc (i + 1) i = zrk mt sc i i := by
  unfold zrk
  rw [zcnt_f (p := fun o => mt o && zbt sc o i)]
  show (mt i && zbt sc i i) = false
  have e : zbt sc i i = false := decide_eq_false (by omega)
  rw [e, Bool.and_false]
theorem zrk_A {mt : Nat → Bool} {sc : Nat → Int} {i k : Nat} (hk : k < i) (hm : mt k = true) (h : sc i ≤ sc k) : zrk mt sc i k < zrk mt sc i i := by
  unfold zrk
  refine zcnt_sub2 (c := k) i (fun o ho h1 => ?_) hk ?_ ?_
  · obtain ⟨h2, h3⟩ := Bool.and_eq_true_iff.mp h1
    have h4 := of_decide_eq_true h3
    show (mt o && zbt sc o i) = true
    rw [h2, Bool.true_and]
    exact decide_eq_true (by omega)
  · show (mt k && zbt sc k k) = false
    have e : zbt sc k k = false := decide_eq_false (by omega)
    rw [e, Bool.and_false]
  · show (mt k && zbt sc k i) = true
    rw [hm, Bool.true_and]
    exact decide_eq_true (by omega)
theorem zrk_B {mt : Nat → Bool} {sc : Nat → Int} {i k : Nat} (h : sc k < sc i) : zrk mt sc i i ≤ zrk mt sc i k := by
  unfold zrk
  refine zcnt_sub i (fun o ho h1 => ?_)
  obtain ⟨h2, h3⟩ := Bool.and_eq_true_iff.mp h1
  have h4 := of_decide_eq_true h3
  show (mt o && zbt sc o k) = true
  rw [h2, Bool.true_and]
  exact decide_eq_true (by omega)
theorem zrk_lt {mt : Nat → Bool} {sc : Nat → Int} {i a b : Nat} (ha : a < i) (hma : mt a = true) (h9 : sc b < sc a ∨ (sc a = sc b ∧ a < b)) : zrk mt sc i a < zrk mt sc i b := by
  unfold zrk
  refine zcnt_sub2 (c := a) i (fun o ho h1 => ?_) ha ?_ ?_
  · obtain ⟨h2, h3⟩ := Bool.and_eq_true_iff.mp h1
    have h4 := of_decide_eq_true h3
    show (mt o && zbt sc o b) = true
    rw [h2, Bool.true_and]
    exact decide_eq_true (by omega)
  · show (mt a && zbt sc a a) = false
    have e : zbt sc a a = false := decide_eq_false (by omega)
    rw [e, Bool.and_false]
  · show (mt a && zbt sc a b) = true
    rw [hma, Bool.true_and]
    exact decide_eq_true h9
theorem zrk_inj {mt : Nat → Bool} {sc : Nat → Int} {i k k2 : Nat} (hk : k < i) (hk2 : k2 < i) (hm : mt k = true) (hm2 : mt k2 = true) (h : zrk mt sc i k = zrk mt sc i k2) : k = k2 := by
  refine Classical.byContradiction fun hne => ?_
  by_cases h1 : sc k2 < sc k ∨ (sc k = sc k2 ∧ k < k2)
  · have := zrk_lt hk hm h1
    omega
  · have := zrk_lt (b := k) hk2 hm2 (by omega : sc k < sc k2 ∨ (sc k2 = sc k ∧ k2 < k))
    omega
/-- the places of the results -/
def zRI {α β : Type} (mt : Nat → Bool) (sc : Nat → Int) (ids : Nat → α) (scs : Nat → β) (i s : Nat) (u : Nat → α) (f : Nat → β) : Prop := s = zcnt mt i ∧ ∀ j, j < s → ∃ k, k < i ∧ mt k = true ∧ zrk mt sc i k = j ∧ u j = ids k ∧ f j = scs k
def yins {α : Type} (u : Nat → α) (c s : Nat) (v : α) : Nat → α := fun j => if j < c then u j else if j = c then v else if j ≤ s then u (j - 1) else u j
theorem zRI.n {α β : Type} {mt : Nat → Bool} {sc : Nat → Int} {ids : Nat → α} {scs : Nat → β} {i s : Nat} {u : Nat → α} {f : Nat → β} (h : zRI mt sc ids scs i s u f) (hm : mt i = false) : zRI mt sc ids scs (i + 1) s u f := by
  obtain ⟨h1, h2⟩ := h
  refine ⟨by rw [zcnt_f hm]; exact h1, fun j hj => ?_⟩
  obtain ⟨k, k1, k2, k3, k4⟩ := h2 j hj
  exact ⟨k, by omega, k2, by rw [zrk_n hm]; exact k3, k4⟩
theorem zRI.y {α β : Type} {mt : Nat → Bool} {sc : Nat → Int} {ids : Nat → α} {scs : Nat → β} {i s c : Nat} {u : Nat → α} {f : Nat → β} (h : zRI mt sc ids scs i s u f) (hm : mt i = true) (hc : c ≤ s) (h1 : ∀ j k, j < s → k < i → f j = scs k → zrk mt sc i k = j → mt k = true → (c ≤ j ↔ sc k < sc i)) : zRI mt sc ids scs (i + 1) (s + 1) (yins u c s (ids i)) (yins f c s (scs i)) := by
  obtain ⟨g1, g2⟩ := h
  have hci : zrk mt sc i i = c := by
    have a1 : zrk mt sc i i ≤ s := by
      rw [g1]
      exact zcnt_sub i (fun o ho q => (Bool.and_eq_true_iff.mp q).1)
    refine Nat.le_antisymm ?_ ?_
    · refine Nat.not_lt.mp fun hlt => ?_
      obtain ⟨k, k1, k2, k3, k4, k5⟩ := g2 c (by omega)
      have h3 := (h1 c k (by omega) k1 k5 k3 k2).mp (Nat.le_refl _)
      have := zrk_B (mt := mt) h3
      omega
    · refine Nat.not_lt.mp fun hlt => ?_
      obtain ⟨k, k1, k2, k3, k4, k5⟩ := g2 (zrk mt sc i i) (by omega)
      have h3 : ¬ sc k < sc i := fun q => by
        have := (h1 _ k (by omega) k1 k5 k3 k2).mpr q
        omega
      have := zrk_A (mt := mt) k1 k2 (by omega : sc i ≤ sc k)
      omega
  refine ⟨by rw [zcnt_t hm, g1], fun j hj => ?_⟩
  unfold yins
  by_cases e1 : j < c
  · obtain ⟨k, k1, k2, k3, k4, k5⟩ := g2 j (by omega)
    have h3 := h1 j k (by omega) k1 k5 k3 k2
    refine ⟨k, by omega, k2, ?_, by rw [if_pos e1]; exact k4, by rw [if_pos e1]; exact k5⟩
    rw [zrk_y hm k1, if_neg (by omega)]
    exact k3
  · by_cases e2 : j = c
    · exact ⟨i, by omega, hm, by rw [zrk_o, hci, e2], by rw [if_neg e1, if_pos e2], by rw [if_neg e1, if_pos e2]⟩
    · obtain ⟨k, k1, k2, k3, k4, k5⟩ := g2 (j - 1) (by omega)
      have h3 := h1 (j - 1) k (by omega) k1 k5 k3 k2
      refine ⟨k, by omega, k2, ?_, by rw [if_neg e1, if_neg e2, if_pos (by omega)]; exact k4, by rw [if_neg e1, if_neg e2, if_pos (by omega)]; exact k5⟩
      rw [zrk_y hm k1, if_pos (by omega)]
      omega
def zRo (a s : Nat) : zE := .inr (5, [.ref (a + 1), .ref (a + 2), .int (nI s)])
def yRA (h : zH) (a : Nat) (u : Nat → Nat) (f : Nat → Int32) : zH := zu (zu h (a + 1) (zAr 0 20 u)) (a + 2) (.inl (0, 20, .inl f))
def RH (h : zH) (a : Nat) (u : Nat → Nat) (f : Nat → Int32) (s : Nat) : Prop := h a = some (zRo a s) ∧ h (a + 1) = some (zAr 0 20 u) ∧ h (a + 2) = some (.inl (0, 20, .inl f))
theorem RH.fr {h h1 : zH} {a r m s : Nat} {u : Nat → Nat} {f : Nat → Int32} (hT : RH h a u f s) (hf : zfr r m h h1) (hd : a + 3 ≤ r ∨ r + m ≤ a) : RH h1 a u f s := by
  obtain ⟨g1, g2, g3⟩ := hT
  exact ⟨by rw [hf _ (by omega)]; exact g1, by rw [hf _ (by omega)]; exact g2, by rw [hf _ (by omega)]; exact g3⟩
theorem yRA.R {h : zH} {a s : Nat} {u : Nat → Nat} {f : Nat → Int32} (h0 : h a = some (zRo a s)) : RH (yRA h a u f) a u f s := by
  unfold yRA
  exact ⟨by rw [zu_n (by omega), zu_n (by omega)]; exact h0, by rw [zu_n (by omega)]; exact zu_s, zu_s⟩
theorem yRA.id {h : zH} {a s : Nat} {u : Nat → Nat} {f : Nat → Int32} (hT : RH h a u f s) : yRA h a u f = h := by
  unfold yRA
  rw [zu_id hT.2.1, zu_id hT.2.2]
theorem yRA.u {h : zH} {a : Nat} {u u2 : Nat → Nat} {f : Nat → Int32} : zu (yRA h a u f) (a + 1) (zAr 0 20 u2) = yRA h a u2 f := by
  unfold yRA
  rw [zu_cm (a := a + 2) (b := a + 1) (by omega), zu_zu]
theorem yRA.f {h : zH} {a : Nat} {u : Nat → Nat} {f f2 : Nat → Int32} : zu (yRA h a u f) (a + 2) (.inl (0, 20, .inl f2)) = yRA h a u f2 := by
  unfold yRA
  rw [zu_zu]
theorem yRA.fr {h : zH} {a : Nat} {u : Nat → Nat} {f : Nat → Int32} : zfr a 3 h (yRA h a u f) := (zfr.u (by omega) (by omega)).tr (zfr.u (by omega) (by omega))
def zposI (f : Nat → Int32) (S : Int32) : Nat → Nat
  | 0 => 0
  | n + 1 => if f n < S then zposI f S n else n + 1
theorem zposI_le {f : Nat → Int32} {S : Int32} : ∀ n, zposI f S n ≤ n := by
  intro n
  induction n with
  | zero => exact Nat.le_refl _
  | succ n ih => unfold zposI; split <;> omega
theorem zposI_hi {f : Nat → Int32} {S : Int32} : ∀ n i, zposI f S n ≤ i → i < n → f i < S := by
  intro n
  induction n with
  | zero => intro i _ h; omega
  | succ n ih =>
    intro i h1 h2
    unfold zposI at h1
    by_cases e : f n < S
    · rw [if_pos e] at h1
      by_cases e2 : i = n
      · subst e2; exact e
      · exact ih i h1 (by omega)
    · rw [if_neg e] at h1
      omega
theorem zposI_lw {f : Nat → Int32} {S : Int32} : ∀ n, zposI f S n = 0 ∨ ¬ f (zposI f S n - 1) < S := by
  intro n
  induction n with
  | zero => exact Or.inl rfl
  | succ n ih =>
    unfold zposI
    by_cases e : f n < S
    · rw [if_pos e]; exact ih
    · rw [if_neg e]; exact Or.inr e
def ysh {α : Type} (u : Nat → α) (p s : Nat) : Nat → α := fun j => if p < j ∧ j ≤ s then u (j - 1) else u j
theorem lp_R_place {Γ : zG} {l : Launch} (hl : l.stackTraces = false) {d : Nat} {h : zH} {n : Nat} {a id s : Nat} {S : Int32} {u : Nat → Nat} {f : Nat → Int32} (h0 : h a = some (zRo a s)) (hs : s < 20) : ∀ p, p ≤ s → zposI f S s = zposI f S p → Z Γ l mR_place d 0 0 (zFin Γ (zR none (zu (yRA h a (yins u (zposI f S s) s id) (yins f (zposI f S s) s S)) a (zRo a (s + 1))) n) 0 0) 15 [some (.ref a), some (.int (nI id)), some (.int S), some (.int (nI p))] [] (yRA h a (ysh u p s) (ysh f p s)) n 0 0 := by
  have fin : ∀ p, p ≤ s → zposI f S s = p → Z Γ l mR_place d 0 0 (zFin Γ (zR none (zu (yRA h a (yins u (zposI f S s) s id) (yins f (zposI f S s) s S)) a (zRo a (s + 1))) n) 0 0) 65 [some (.ref a), some (.int (nI id)), some (.int S), some (.int (nI p))] [] (yRA h a (ysh u p s) (ysh f p s)) n 0 0 := by
    intro p hp hpos
    have hT := yRA.R (u := ysh u p s) (f := ysh f p s) h0
    rw [hpos]
    have e1 : zup (ysh u p s) p id = yins u p s id := by
      funext j
      unfold zup ysh yins
      (repeat' split) <;> first | rfl | (exfalso; omega) | (congr 1; omega) | omega
    have e2 : upd (ysh f p s) p S = yins f p s S := by
      funext j
      unfold upd ysh yins
      (repeat' split) <;> first | rfl | (exfalso; omega) | (congr 1; omega) | omega
    refine zs_aload_n (pc := 65) dR_place_65 rfl ?_
    refine zs_get (pc := 66) dR_place_66 fR_9 (by first | exact hT.1 | exact hT.2.1 | exact hT.2.2 | exact hT2.1 | exact hT2.2.1 | exact hT2.2.2) (by rfl) ?_
    refine zs_iload_n (pc := 69) dR_place_69 rfl ?_
    refine zs_iload_n (pc := 70) dR_place_70 rfl ?_
    refine zn_iast (pc := 71) dR_place_71 (by first | exact hT.1 | exact hT.2.1 | exact hT.2.2 | exact hT2.1 | exact hT2.2.1 | exact hT2.2.2) (by omega) (by first | decide | assumption) ?_
    rw [yRA.u, e1]
    have hT2 := yRA.R (u := yins u p s id) (f := ysh f p s) h0
    refine zs_aload_n (pc := 72) dR_place_72 rfl ?_
    refine zs_get (pc := 73) dR_place_73 fR_15 (by first | exact hT2.1 | exact hT2.2.1 | exact hT2.2.2) (by rfl) ?_
    refine zs_iload_n (pc := 76) dR_place_76 rfl ?_
    refine zs_iload_n (pc := 77) dR_place_77 rfl ?_
    refine zr_iast (pc := 78) dR_place_78 (by first | exact hT2.1 | exact hT2.2.1 | exact hT2.2.2) (by omega) (by decide) ?_
    rw [yRA.f, e2]
    have hT := yRA.R (u := yins u p s id) (f := yins f p s S) h0
    refine zs_aload_n (pc := 79) dR_place_79 rfl ?_
    refine zs_dup (pc := 80) dR_place_80 rfl ?_
    refine zs_get (pc := 81) dR_place_81 fR_18 (by first | exact hT.1 | exact hT.2.1 | exact hT.2.2) (by rfl) ?_
    refine zs_iconst (pc := 84) dR_place_84 zi_1 ?_
    refine zn_iadd (pc := 85) dR_place_85 ?_
    refine zs_put (pc := 86) (fs2 := [_, _, _]) dR_place_86 fR_18 (by first | exact hT.1 | exact hT.2.1 | exact hT.2.2) (by rfl) (by rfl) (by exact Nat.le_of_ble_eq_true rfl) (by rfl) ?_
    exact zs_vret (pc := 89) dR_place_89 rfl (by omega) (by omega) (⟨rfl, rfl, rfl⟩)
  intro p
  induction p with
  | zero =>
    intro hp hpos
    refine zs_iload_n (pc := 15) dR_place_15 rfl ?_
    refine zn_if_le (pc := 16) 65 dR_place_16 rfl (by omega) (fun _ => ?_) (fun h9 => absurd h9 (by omega))
    exact fin 0 hp hpos
  | succ p ih =>
    intro hp hpos
    have hT := yRA.R (u := ysh u (p + 1) s) (f := ysh f (p + 1) s) h0
    have e0 : ysh f (p + 1) s (p + 1 - 1) = f p := by unfold ysh; rw [if_neg (by omega)]; rfl
    have e1 : zup (ysh u (p + 1) s) (p + 1) (ysh u (p + 1) s (p + 1 - 1)) = ysh u p s := by
      funext j
      unfold zup ysh
      (repeat' split) <;> first | rfl | (exfalso; omega) | (congr 1; omega) | omega
    have e2 : upd (ysh f (p + 1) s) (p + 1) (ysh f (p + 1) s (p + 1 - 1)) = ysh f p s := by
      funext j
      unfold upd ysh
      (repeat' split) <;> first | rfl | (exfalso; omega) | (congr 1; omega) | omega
    refine zs_iload_n (pc := 15) dR_place_15 rfl ?_
    refine zn_if_le (pc := 16) 65 dR_place_16 rfl (by omega) (fun h9 => absurd h9 (by omega)) (fun _ => ?_)
    refine zs_aload_n (pc := 19) dR_place_19 rfl ?_
    refine zs_get (pc := 20) dR_place_20 fR_15 (by first | exact hT.1 | exact hT.2.1 | exact hT.2.2) (by rfl) ?_
    refine zs_iload_n (pc := 23) dR_place_23 rfl ?_
    refine zs_iconst (pc := 24) dR_place_24 zi_1 ?_
    refine zn_isub (pc := 25) dR_place_25 (by omega) ?_
    refine zr_iald (pc := 26) dR_place_26 (by first | exact hT.1 | exact hT.2.1 | exact hT.2.2) (by omega) (by decide) ?_
    rw [e0]
    refine zs_iload_n (pc := 27) dR_place_27 rfl ?_
    have hpos : zposI f S s = (if f p < S then zposI f S p else p + 1) := hpos
    by_cases hlt : f p < S
    · rw [if_pos hlt] at hpos
      refine zs_icmp_ge (pc := 28) 65 dR_place_28 rfl (fun h9 => absurd h9 (Int32.not_le.mpr hlt)) (fun _ => ?_)
      refine zs_aload_n (pc := 31) dR_place_31 rfl ?_
      refine zs_get (pc := 32) dR_place_32 fR_9 (by first | exact hT.1 | exact hT.2.1 | exact hT.2.2) (by rfl) ?_
      refine zs_iload_n (pc := 35) dR_place_35 rfl ?_
      refine zs_aload_n (pc := 36) dR_place_36 rfl ?_
      refine zs_get (pc := 37) dR_place_37 fR_9 (by first | exact hT.1 | exact hT.2.1 | exact hT.2.2) (by rfl) ?_
      refine zs_iload_n (pc := 40) dR_place_40 rfl ?_
      refine zs_iconst (pc := 41) dR_place_41 zi_1 ?_
      refine zn_isub (pc := 42) dR_place_42 (by omega) ?_
      refine zn_iald (pc := 43) dR_place_43 (by first | exact hT.1 | exact hT.2.1 | exact hT.2.2) (by omega) (by first | decide | assumption) ?_
      refine zn_iast (pc := 44) dR_place_44 (by first | exact hT.1 | exact hT.2.1 | exact hT.2.2) (by omega) (by first | decide | assumption) ?_
      rw [yRA.u, e1]
      have hT2 := yRA.R (u := ysh u p s) (f := ysh f (p + 1) s) h0
      refine zs_aload_n (pc := 45) dR_place_45 rfl ?_
      refine zs_get (pc := 46) dR_place_46 fR_15 (by first | exact hT2.1 | exact hT2.2.1 | exact hT2.2.2) (by rfl) ?_
      refine zs_iload_n (pc := 49) dR_place_49 rfl ?_
      refine zs_aload_n (pc := 50) dR_place_50 rfl ?_
      refine zs_get (pc := 51) dR_place_51 fR_15 (by first | exact hT2.1 | exact hT2.2.1 | exact hT2.2.2) (by rfl) ?_
      refine zs_iload_n (pc := 54) dR_place_54 rfl ?_
      refine zs_iconst (pc := 55) dR_place_55 zi_1 ?_
      refine zn_isub (pc := 56) dR_place_56 (by omega) ?_
      refine zr_iald (pc := 57) dR_place_57 (by first | exact hT2.1 | exact hT2.2.1 | exact hT2.2.2) (by omega) (by decide) ?_
      refine zr_iast (pc := 58) dR_place_58 (by first | exact hT2.1 | exact hT2.2.1 | exact hT2.2.2) (by omega) (by decide) ?_
      rw [yRA.f, e2]
      refine zn_idec (pc := 59) (ls2 := [_, _, _, _]) dR_place_59 rfl (Nat.le_of_ble_eq_true rfl) rfl ?_
      refine zs_goto (pc := 62) 15 dR_place_62 rfl ?_
      exact ih (by omega) hpos
    · rw [if_neg hlt] at hpos
      refine zs_icmp_ge (pc := 28) 65 dR_place_28 rfl (fun _ => ?_) (fun h9 => absurd h9 (fun q => q (Int32.not_lt.mp hlt)))
      exact fin (p + 1) hp hpos
theorem s_R_place {Γ : zG} {l : Launch} (hl : l.stackTraces = false) {d : Nat} {h : zH} {n : Nat} {a id s : Nat} {S : Int32} {u : Nat → Nat} {f : Nat → Int32} (hT : RH h a u f s) (hs : s < 20) : zC Γ l d mR_place [.ref a, .int (nI id), .int S] h n 0 0 (zR none (zu (yRA h a (yins u (zposI f S s) s id) (yins f (zposI f S s) s S)) a (zRo a (s + 1))) n) := by
  have h9 := lp_R_place (Γ := Γ) hl (d := d) (h := h) (n := n) (id := id) (S := S) (u := u) (f := f) hT.1 hs s (Nat.le_refl _) rfl
  have e1 : ysh u s s = u := by funext j; unfold ysh; rw [if_neg (by omega)]
  have e2 : ysh f s s = f := by funext j; unfold ysh; rw [if_neg (by omega)]
  rw [e1, e2, yRA.id hT] at h9
  refine zC_of (ls := [some (.ref a), some (.int (nI id)), some (.int S), none]) hl (by decide +kernel) rfl (Nat.le_of_ble_eq_true rfl) rfl ?_
  refine zs_aload_n (pc := 0) dR_place_0 rfl ?_
  refine zs_get (pc := 1) dR_place_1 fR_18 (by first | exact hT.1 | exact hT.2.1 | exact hT.2.2) (by rfl) ?_
  refine zs_bipush (pc := 4) dR_place_4 (zi_b 20 (by decide)) ?_
  refine zn_icmp_lt (pc := 6) 10 dR_place_6 rfl (by omega) (by omega) (fun _ => ?_) (fun h9 => absurd h9 (by omega))
  refine zs_aload_n (pc := 10) dR_place_10 rfl ?_
  refine zs_get (pc := 11) dR_place_11 fR_18 (by first | exact hT.1 | exact hT.2.1 | exact hT.2.2) (by rfl) ?_
  refine zs_istore_n (pc := 14) (ls2 := [_, _, _, _]) dR_place_14 (Nat.le_of_ble_eq_true rfl) rfl ?_
  exact h9
def zsc (g : Nat → Nat) (dn v : Nat) (k : Nat) : Int := (zscore (eg g k) dn v).toInt
def zmt2 (g : Nat → Nat) (dn v : Nat) (k : Nat) : Bool := decide (0 < zmany (eg g k) dn v)
def zRG (g : Nat → Nat) (dn v i s : Nat) (u : Nat → Nat) (f : Nat → Int32) : Prop := zRI (zmt2 g dn v) (zsc g dn v) (fun k => eg g k 0) (fun k => zscore (eg g k) dn v) i s u f
theorem lp_R_order {Γ : zG} {l : Launch} (hl : l.stackTraces = false) {d : Nat} (hd : 4 ≤ d) {h : zH} {n : Nat} {B r a dn v : Nat} {g : Nat → Nat} {p : Nat → Nat} {Q : Nat → Nat → Nat} (hC0 : CH h r p Q (zFg g)) (hp : PM p) (hA : ∀ j, j < g 0 → zAg (Q (p j)) (eg g j)) (hI : IG B g) (hB : B < 2 ^ 20) (hdj : r + 42 ≤ a ∨ a + 3 ≤ r) (hdn : dn ≤ 3) (hv : v < 2 ^ 31) : ∀ b i, b + i = g 0 → ∀ (h1 : zH) (u : Nat → Nat) (f : Nat → Int32) (s : Nat) (x5 : Option Value), RH h1 a u f s → zfr a 3 h h1 → zRG g dn v i s u f → Z Γ l mR_order d 0 0 (zFin Γ (fun o h2 n2 => o = .inl none ∧ n2 = n ∧ zfr a 3 h h2 ∧ ∃ u2 f2 s2, RH h2 a u2 f2 s2 ∧ zRG g dn v (g 0) s2 u2 f2) 0 0) 8 [some (.ref a), some (.ref r), some (.int (nI dn)), some (.int (nI v)), some (.int (nI i)), x5] [] h1 n 0 0 := by
  have i0 := hI.1
  have e1 : zFg g 1 = g 0 := rfl
  intro b
  induction b with
  | zero =>
    intro i hi h1 u f s x5 hT hfr hG
    obtain rfl : i = g 0 := by omega
    have hC := hC0.fr hfr (by omega)
    refine zs_iload (pc := 8) dR_order_8 rfl ?_
    refine zs_aload_n (pc := 10) dR_order_10 rfl ?_
    refine zs_get (pc := 11) dR_order_11 fR_22 (by first | exact hT.1 | exact hC.1 | exact hC.2.1 | exact he.1) (by rfl) ?_
    refine zn_icmp_ge (pc := 14) 58 dR_order_14 rfl (by omega) (by omega) (fun _ => ?_) (fun h9 => absurd h9 (by omega))
    exact zs_vret (pc := 58) dR_order_58 rfl (by omega) (by omega) (⟨rfl, rfl, hfr, u, f, s, hT, hG⟩)
  | succ b ih =>
    intro i hi h1 u f s x5 hT hfr hG
    have hC := hC0.fr hfr (by omega)
    have hpi := hp.1 i (by omega)
    have he := hC.2.2 (p i) hpi
    have hA1 := hA i (by omega)
    have hb := hA1.b (hI.b hB (j := i) (by omega))
    have hm := hA1.many dn v
    have hm6 : zmany (eg g i) dn v ≤ eg g i 5 := zcnt_le _ _
    have h6 := hI.s6 i (by omega)
    have hss := hG.1
    have hsl := zcnt_le (zmt2 g dn v) i
    by_cases hmy : 0 < zmany (eg g i) dn v
    · have hmt : zmt2 g dn v i = true := decide_eq_true hmy
      refine zs_iload (pc := 8) dR_order_8 rfl ?_
      refine zs_aload_n (pc := 10) dR_order_10 rfl ?_
      refine zs_get (pc := 11) dR_order_11 fR_22 (by first | exact hT.1 | exact hC.1 | exact hC.2.1 | exact he.1) (by rfl) ?_
      refine zn_icmp_ge (pc := 14) 58 dR_order_14 rfl (by omega) (by omega) (fun h9 => absurd h9 (by omega)) (fun _ => ?_)
      refine zs_aload_n (pc := 17) dR_order_17 rfl ?_
      refine zs_get (pc := 18) dR_order_18 fR_27 (by first | exact hT.1 | exact hC.1 | exact hC.2.1 | exact he.1) (by rfl) ?_
      refine zs_iload (pc := 21) dR_order_21 rfl ?_
      refine zn_aald (pc := 23) (Or.inl rfl) dR_order_23 (by first | exact hT.1 | exact hC.1 | exact hC.2.1 | exact he.1) (by omega) (by decide) (by rfl) ?_
      refine zs_astore (pc := 24) (ls2 := [_, _, _, _, _, _]) dR_order_24 (Nat.le_of_ble_eq_true rfl) rfl ?_
      refine zs_aload (pc := 26) dR_order_26 rfl ?_
      refine zs_iload_n (pc := 28) dR_order_28 rfl ?_
      refine zs_iload_n (pc := 29) dR_order_29 rfl ?_
      refine zcV1_2 (pc := 30) (d2 := d - 1) (s_E_countWith hl (by omega) hb he.1 he.2 hdn hv) dR_order_30 kR_31 mdE_countWith miE_countWith mvE_countWith rfl (by first | exact he.1 | exact hT.1) rfl (Nat.le_of_ble_eq_true rfl) (by omega) (by omega) (by omega) ?_
      refine zn_if_le (pc := 33) 52 dR_order_33 rfl (by omega) (fun h9 => absurd h9 (by omega)) (fun _ => ?_)
      refine zs_aload_n (pc := 36) dR_order_36 rfl ?_
      refine zs_aload (pc := 37) dR_order_37 rfl ?_
      refine zs_get (pc := 39) dR_order_39 fR_37 (by first | exact hT.1 | exact hC.1 | exact hC.2.1 | exact he.1) (by rfl) ?_
      refine zs_aload (pc := 42) dR_order_42 rfl ?_
      refine zs_iload_n (pc := 44) dR_order_44 rfl ?_
      refine zs_iload_n (pc := 45) dR_order_45 rfl ?_
      refine zcV1_2 (pc := 46) (d2 := d - 1) (s_E_score hl (by omega) hb he.1 he.2 hdn hv) dR_order_46 kR_40 mdE_score miE_score mvE_score rfl (by first | exact he.1 | exact hT.1) rfl (Nat.le_of_ble_eq_true rfl) (by omega) (by omega) (by omega) ?_
      rw [hA1 0 (by omega), hA1.score]
      refine zcV0_2 (pc := 49) (d2 := d - 1) (s_R_place hl hT (by omega)) dR_order_49 kR_43 mdR_place miR_place mvR_place rfl (by first | exact he.1 | exact hT.1) rfl (Nat.le_of_ble_eq_true rfl) (by omega) (by omega) (by omega) ?_
      refine zn_iinc (pc := 52) (ls2 := [_, _, _, _, _, _]) dR_order_52 rfl (Nat.le_of_ble_eq_true rfl) rfl ?_
      refine zs_goto (pc := 55) 8 dR_order_55 rfl ?_
      refine ih (i + 1) (by omega) _ _ _ (s + 1) _ ⟨zu_s, ?_, ?_⟩ ((hfr.tr yRA.fr).tr (zfr.u (by omega) (by omega))) (zRI.y (c := zposI f (zscore (eg g i) dn v) s) hG hmt (zposI_le s) (fun j k hj hk hf hr hmk => ?_))
      · rw [zu_n (by omega)]
        exact (yRA.R hT.1).2.1
      · rw [zu_n (by omega)]
        exact (yRA.R hT.1).2.2
      · have hfk : f j = zscore (eg g k) dn v := hf
        have hlt : f j < zscore (eg g i) dn v ↔ zsc g dn v k < zsc g dn v i := by rw [hfk]; exact Int32.lt_iff_toInt_lt
        constructor
        · intro q
          exact hlt.mp (zposI_hi s j q hj)
        · intro q
          refine Nat.not_lt.mp fun hjc => ?_
          rcases zposI_lw (f := f) (S := zscore (eg g i) dn v) s with h0 | h0
          · omega
          · have hle := zposI_le (f := f) (S := zscore (eg g i) dn v) s
            obtain ⟨k1, a1, a2, a3, a4, a5⟩ := hG.2 (zposI f (zscore (eg g i) dn v) s - 1) (by omega)
            have hf1 : f (zposI f (zscore (eg g i) dn v) s - 1) = zscore (eg g k1) dn v := a5
            rw [hf1] at h0
            have h3 : ¬ zsc g dn v k1 < zsc g dn v i := fun q3 => h0 (Int32.lt_iff_toInt_lt.mpr q3)
            have h4 := zrk_lt (b := k) a1 a2 (by omega : zsc g dn v k < zsc g dn v k1 ∨ (zsc g dn v k1 = zsc g dn v k ∧ k1 < k))
            omega
    · have hmt : zmt2 g dn v i = false := decide_eq_false hmy
      refine zs_iload (pc := 8) dR_order_8 rfl ?_
      refine zs_aload_n (pc := 10) dR_order_10 rfl ?_
      refine zs_get (pc := 11) dR_order_11 fR_22 (by first | exact hT.1 | exact hC.1 | exact hC.2.1 | exact he.1) (by rfl) ?_
      refine zn_icmp_ge (pc := 14) 58 dR_order_14 rfl (by omega) (by omega) (fun h9 => absurd h9 (by omega)) (fun _ => ?_)
      refine zs_aload_n (pc := 17) dR_order_17 rfl ?_
      refine zs_get (pc := 18) dR_order_18 fR_27 (by first | exact hT.1 | exact hC.1 | exact hC.2.1 | exact he.1) (by rfl) ?_
      refine zs_iload (pc := 21) dR_order_21 rfl ?_
      refine zn_aald (pc := 23) (Or.inl rfl) dR_order_23 (by first | exact hT.1 | exact hC.1 | exact hC.2.1 | exact he.1) (by omega) (by decide) (by rfl) ?_
      refine zs_astore (pc := 24) (ls2 := [_, _, _, _, _, _]) dR_order_24 (Nat.le_of_ble_eq_true rfl) rfl ?_
      refine zs_aload (pc := 26) dR_order_26 rfl ?_
      refine zs_iload_n (pc := 28) dR_order_28 rfl ?_
      refine zs_iload_n (pc := 29) dR_order_29 rfl ?_
      refine zcV1_2 (pc := 30) (d2 := d - 1) (s_E_countWith hl (by omega) hb he.1 he.2 hdn hv) dR_order_30 kR_31 mdE_countWith miE_countWith mvE_countWith rfl (by first | exact he.1 | exact hT.1) rfl (Nat.le_of_ble_eq_true rfl) (by omega) (by omega) (by omega) ?_
      refine zn_if_le (pc := 33) 52 dR_order_33 rfl (by omega) (fun _ => ?_) (fun h9 => absurd h9 (by omega))
      refine zn_iinc (pc := 52) (ls2 := [_, _, _, _, _, _]) dR_order_52 rfl (Nat.le_of_ble_eq_true rfl) rfl ?_
      refine zs_goto (pc := 55) 8 dR_order_55 rfl ?_
      exact ih (i + 1) (by omega) h1 u f s _ hT hfr (zRI.n hG hmt)
theorem s_R_order {Γ : zG} {l : Launch} (hl : l.stackTraces = false) {d : Nat} (hd : 4 ≤ d) {h : zH} {n : Nat} {B r a dn v s : Nat} {g u : Nat → Nat} {f : Nat → Int32} (hT : RH h a u f s) (hR : CR h r g) (hI : IG B g) (hB : B < 2 ^ 20) (hdj : r + 42 ≤ a ∨ a + 3 ≤ r) (hdn : dn ≤ 3) (hv : v < 2 ^ 31) : zC Γ l d mR_order [.ref a, .ref r, .int (nI dn), .int (nI v)] h n 0 0 (fun o h2 n2 => o = .inl none ∧ n2 = n ∧ zfr a 3 h h2 ∧ ∃ u2 f2 s2, RH h2 a u2 f2 s2 ∧ zRG g dn v (g 0) s2 u2 f2) := by
  obtain ⟨p, Q, hC, hp, hA⟩ := hR
  refine zC_of (ls := [some (.ref a), some (.ref r), some (.int (nI dn)), some (.int (nI v)), none, none]) hl (by decide +kernel) rfl (Nat.le_of_ble_eq_true rfl) rfl ?_
  refine zs_aload_n (pc := 0) dR_order_0 rfl ?_
  refine zs_iconst (pc := 1) dR_order_1 zi_0 ?_
  refine zs_put (pc := 2) (fs2 := [_, _, _]) dR_order_2 fR_18 (by first | exact hT.1 | exact hC.1 | exact hC.2.1 | exact he.1) (by rfl) (by rfl) (by exact Nat.le_of_ble_eq_true rfl) (by rfl) ?_
  refine zs_iconst (pc := 5) dR_order_5 zi_0 ?_
  refine zs_istore (pc := 6) (ls2 := [_, _, _, _, _, _]) dR_order_6 (Nat.le_of_ble_eq_true rfl) rfl ?_
  exact lp_R_order hl hd hC hp hA hI hB hdj hdn hv (g 0) 0 rfl _ u f 0 _ ⟨zu_s, by rw [zu_n (by omega)]; exact hT.2.1, by rw [zu_n (by omega)]; exact hT.2.2⟩ (zfr.u (by omega) (by omega)) ⟨rfl, fun j hj => absurd hj (by omega)⟩

