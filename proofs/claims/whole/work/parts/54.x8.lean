/-! the lowest code from c1 on, in the whole index -/
def zAf (g : Nat → Nat) (c1 : Nat) : Nat := c1 + zfst (fun j => decide (0 < zres g 3 (c1 + j))) (1000 - c1)
def zLwo (g : Nat → Nat) (c1 j m : Nat) : Prop := m ≤ 1000 ∧ (m = 1000 ∨ (c1 ≤ m ∧ ∃ k, k < j ∧ ∃ i, i < eg g k 5 ∧ eg g k (6 + i) = m)) ∧ ∀ k, k < j → ∀ i, i < eg g k 5 → c1 ≤ eg g k (6 + i) → m ≤ eg g k (6 + i)
theorem zfst_n {p : Nat → Bool} : ∀ n, zany p n = false → zfst p n = n := by
  intro n h
  cases n with
  | zero => rfl
  | succ n =>
    have h2 : (zany p n || p n) = false := h
    rw [Bool.or_eq_false_iff] at h2
    unfold zfst
    rw [if_neg (by rw [h2.1]; decide), if_neg (by rw [h2.2]; decide)]
theorem zres3_y {g : Nat → Nat} {v : Nat} : 0 < zres g 3 v ↔ ∃ k, k < g 0 ∧ ∃ i, i < eg g k 5 ∧ eg g k (6 + i) = v := by
  rw [zres_y]
  simp only [zhas_3, beq_iff_eq]
theorem zLwo.is {B c1 m : Nat} {g : Nat → Nat} (hI : IG B g) (hc1 : c1 ≤ 1000) (h : zLwo g c1 (g 0) m) : m = zAf g c1 := by
  obtain ⟨h1, h2, h3⟩ := h
  unfold zAf
  rcases h2 with rfl | ⟨h4, h5⟩
  · rw [zfst_n]
    · omega
    · apply zany_no.mpr
      intro j hj
      apply decide_eq_false
      intro q
      obtain ⟨k, k1, i, i1, i2⟩ := zres3_y.mp q
      have := h3 k k1 i i1 (by omega)
      omega
  · obtain ⟨k, k1, i, i1, i2⟩ := h5
    have hlt := (hI.2.2.2.2.2.1 k k1).2.2.2.2.2.2.1 i i1
    have hp : (fun j => decide (0 < zres g 3 (c1 + j))) (m - c1) = true := by
      apply decide_eq_true
      rw [show c1 + (m - c1) = m by omega]
      exact zres3_y.mpr ⟨k, k1, i, i1, i2⟩
    obtain ⟨f1, f2, f3⟩ := zfst_y (p := fun j => decide (0 < zres g 3 (c1 + j))) (1000 - c1) (zany_iff.mpr ⟨m - c1, by omega, hp⟩)
    generalize zfst (fun j => decide (0 < zres g 3 (c1 + j))) (1000 - c1) = r at f1 f2 f3 ⊢
    obtain ⟨k2, k3, i3, i4, i5⟩ := zres3_y.mp (of_decide_eq_true f2)
    have h8 := h3 k2 k3 i3 i4 (by omega)
    have h9 : ¬ m - c1 < r := fun q => by
      have := f3 _ q
      exact Bool.false_ne_true (this.symm.trans hp)
    omega
theorem zLow.ag {q q2 : Nat → Nat} {c1 r : Nat} (h : zAg q q2) (hz : zLow q c1 r) : zLow q2 c1 r := by
  rcases hz with ⟨h1, h2⟩ | ⟨i, h1, h2, h3, h4⟩
  · exact Or.inl ⟨h1, fun i hi => by rw [← h (6 + i) (by omega)]; exact h2 i (by rw [h.e5]; exact hi)⟩
  · rw [h.e5] at h1
    exact Or.inr ⟨i, h1, by rw [← h (6 + i) (by omega)]; exact h2, h3, fun j hj => by rw [← h (6 + j) (by omega)]; exact h4 j hj⟩
theorem zLwo.s {B c1 j m r : Nat} {g : Nat → Nat} (hI : IG B g) (hj : j < g 0) (h : zLwo g c1 j m) (hr : zLow (eg g j) c1 r) : r ≤ 1000 ∧ zLwo g c1 (j + 1) (min m r) := by
  obtain ⟨h1, h2, h3⟩ := h
  have hO := hI.2.2.2.2.2.1 j hj
  have hmn := zmono (f := fun i => eg g j (6 + i)) hO.2.2.2.2.2.2.2
  have hall : r ≤ 1000 ∧ (r = 1000 ∨ (c1 ≤ r ∧ ∃ i, i < eg g j 5 ∧ eg g j (6 + i) = r)) ∧ ∀ i, i < eg g j 5 → c1 ≤ eg g j (6 + i) → r ≤ eg g j (6 + i) := by
    rcases hr with ⟨rfl, q2⟩ | ⟨i, q1, q2, q3, q4⟩
    · exact ⟨Nat.le_refl _, Or.inl rfl, fun i hi q => absurd (q2 i hi) (by omega)⟩
    · have hlt := hO.2.2.2.2.2.2.1 i q1
      refine ⟨by omega, Or.inr ⟨q3, i, q1, q2.symm⟩, fun i2 hi2 q => ?_⟩
      by_cases e : i2 < i
      · have := q4 i2 e; omega
      · by_cases e2 : i2 = i
        · subst e2; omega
        · have h9 : eg g j (6 + i) < eg g j (6 + i2) := hmn i i2 (by omega) hi2
          omega
  obtain ⟨a1, a2, a3⟩ := hall
  refine ⟨a1, by omega, ?_, fun k hk i hi q => ?_⟩
  · by_cases e : m ≤ r
    · rw [Nat.min_eq_left e]
      rcases h2 with h2 | ⟨h2, k, k1, k2⟩
      · exact Or.inl h2
      · exact Or.inr ⟨h2, k, by omega, k2⟩
    · rw [Nat.min_eq_right (by omega)]
      rcases a2 with a2 | ⟨a2, a4⟩
      · exact Or.inl a2
      · exact Or.inr ⟨a2, j, by omega, a4⟩
  · by_cases e : k = j
    · subst e
      have := a3 i hi q
      omega
    · have := h3 k (by omega) i hi q
      omega
def zVm (y : Int32) : Bool := decide (-1 ≤ y.toInt ∧ y.toInt ≤ 999)
def aAft (g : Nat → Nat) (y : Int32) : Nat × Int32 := if zVm y = true then (if zAf g (y.toInt + 1).toNat = 1000 then (2, -1) else (0, nI (zAf g (y.toInt + 1).toNat))) else (1, -1)
theorem lp_X_codeAfter {Γ : zG} {l : Launch} (hl : l.stackTraces = false) {d : Nat} (hd : 4 ≤ d) {h : zH} {n : Nat} {x st B c1 : Nat} {sv : Bool} {er fl : Option Nat} {g : Nat → Nat} {p : Nat → Nat} {Q : Nat → Nat → Nat} {y : Int32} {mc ms : Nat} {FN : List Frame → Array Value → State → State → Prop} (hx : h x = some (zXo x st sv er fl)) (hC : CH h (x + 1) p Q (zFg g)) (hp : PM p) (hA : ∀ j, j < g 0 → zAg (Q (p j)) (eg g j)) (hI : IG B g) (hB : B < 2 ^ 20) (hy : ∀ m, m < 2 ^ 31 → (nI m ≤ y ↔ m < c1)) (hc1 : c1 ≤ 1000) (K : Z Γ l mX_codeAfter d mc ms FN 63 [some (.ref x), some (.int y), some (.int (nI (zAf g c1))), some (.int (nI (g 0)))] [] h n 0 0) : ∀ i j, i + j = g 0 → ∀ m, zLwo g c1 j m → Z Γ l mX_codeAfter d mc ms FN 28 [some (.ref x), some (.int y), some (.int (nI m)), some (.int (nI j))] [] h n 0 0 := by
  have i0 := hI.1
  have e1 : zFg g 1 = g 0 := rfl
  intro i
  induction i with
  | zero =>
    intro j hj m hm
    obtain rfl : j = g 0 := by omega
    refine zs_iload_n (pc := 28) dX_codeAfter_28 rfl ?_
    refine zs_aload_n (pc := 29) dX_codeAfter_29 rfl ?_
    refine zs_get (pc := 30) dX_codeAfter_30 fX_12 (by first | exact hx | exact hC.1 | exact hC.2.1) (by rfl) ?_
    refine zs_get (pc := 33) dX_codeAfter_33 fX_115 (by first | exact hx | exact hC.1 | exact hC.2.1) (by rfl) ?_
    refine zn_icmp_ge (pc := 36) 63 dX_codeAfter_36 rfl (by omega) (by omega) (fun _ => ?_) (fun h9 => absurd h9 (by omega))
    rw [hm.is hI hc1]
    exact K
  | succ i ih =>
    intro j hj m hm
    have hA1 := hA j (by omega)
    have he := hC.2.2 (p j) (hp.1 j (by omega))
    have hb := hA1.b (hI.b hB (j := j) (by omega))
    refine zs_iload_n (pc := 28) dX_codeAfter_28 rfl ?_
    refine zs_aload_n (pc := 29) dX_codeAfter_29 rfl ?_
    refine zs_get (pc := 30) dX_codeAfter_30 fX_12 (by first | exact hx | exact hC.1 | exact hC.2.1) (by rfl) ?_
    refine zs_get (pc := 33) dX_codeAfter_33 fX_115 (by first | exact hx | exact hC.1 | exact hC.2.1) (by rfl) ?_
    refine zn_icmp_ge (pc := 36) 63 dX_codeAfter_36 rfl (by omega) (by omega) (fun h9 => absurd h9 (by omega)) (fun _ => ?_)
    refine zs_iload_n (pc := 39) dX_codeAfter_39 rfl ?_
    refine zs_aload_n (pc := 40) dX_codeAfter_40 rfl ?_
    refine zs_get (pc := 41) dX_codeAfter_41 fX_12 (by first | exact hx | exact hC.1 | exact hC.2.1) (by rfl) ?_
    refine zs_get (pc := 44) dX_codeAfter_44 fX_120 (by first | exact hx | exact hC.1 | exact hC.2.1) (by rfl) ?_
    refine zs_iload_n (pc := 47) dX_codeAfter_47 rfl ?_
    refine zn_aald (pc := 48) (Or.inl rfl) dX_codeAfter_48 (by first | exact hx | exact hC.1 | exact hC.2.1) (by omega) (by decide) (by rfl) ?_
    refine zs_iload_n (pc := 49) dX_codeAfter_49 rfl ?_
    refine zcVQ_1 (pc := 50) (d2 := d - 1) (s_E_lowestAbove hl hb he.1 he.2 hy) dX_codeAfter_50 kX_220 mdE_lowestAbove miE_lowestAbove mvE_lowestAbove rfl (by exact he.1) rfl (Nat.le_of_ble_eq_true rfl) (by omega) (by omega) (by omega) (fun v h1 n1 hq => ?_) (fun E h1 n1 hq => ?_)
    · obtain ⟨⟨r, hr, hz⟩, rfl, rfl⟩ := hq
      obtain rfl := Sum.inl.inj hr
      obtain ⟨r1, hz2⟩ := hm.s hI (by omega) (zLow.ag hA1 hz)
      have m1 := hm.1
      refine zn_mmin (pc := 53) dX_codeAfter_53 kX_223 (Nat.le_of_ble_eq_true rfl) (by omega) (by omega) (by omega) (by omega) ?_
      refine zs_istore_n (pc := 56) (ls2 := [_, _, _, _]) dX_codeAfter_56 (Nat.le_of_ble_eq_true rfl) rfl ?_
      refine zn_iinc (pc := 57) (ls2 := [_, _, _, _]) dX_codeAfter_57 rfl (Nat.le_of_ble_eq_true rfl) rfl ?_
      refine zs_goto (pc := 60) 28 dX_codeAfter_60 rfl ?_
      exact ih (j + 1) (by omega) _ hz2
    · obtain ⟨⟨r, hr, -⟩, -⟩ := hq
      cases hr
theorem s_X_codeAfter {Γ : zG} {l : Launch} (hl : l.stackTraces = false) {d : Nat} (hd : 4 ≤ d) {h : zH} {n : Nat} {B x c np : Nat} {g T : Nat → Nat} {P : Nat → Nat → Nat} {sv : Option (Nat → Nat)} {er fl : Option Nat} {L : List Nat} (hX : XR B h x g P c sv er fl T np L) (hB : B < 2 ^ 20) (y : Int32) : zC Γ l d mX_codeAfter [.ref x, .int y] h n 1 6 (zXq x h n ["", sIA, sNS] (aAft g y) (fun h1 => XR B h1 x g P c sv er fl T np L)) := by
  have hX9 := hX; obtain ⟨⟨st, hst, hx, htr⟩, hR, hI, hsv, hH, hrk, hpg, hn60, hTc, hL, hag⟩ := hX; have i0 := hI.1
  obtain ⟨p, Q, hC, hp, hA⟩ := hR
  have em : (-1 : Int32).toInt = -1 := by decide
  have ek : (nI 1000).toInt = 1000 := by decide
  unfold aAft
  refine zC_of (ls := [some (.ref x), some (.int y), none, none]) hl (by decide +kernel) rfl (Nat.le_of_ble_eq_true rfl) rfl ?_
  cases hv : zVm y with
  | false =>
    rw [if_neg (by decide)]
    have hv2 := of_decide_eq_false hv
    refine zs_iload_n (pc := 0) dX_codeAfter_0 rfl ?_
    refine zs_iconst (pc := 1) dX_codeAfter_1 zi_m1 ?_
    refine zs_icmp_lt (pc := 2) 12 dX_codeAfter_2 rfl (fun hb => ?_) (fun hb => ?_)
    · exact zs_throw (pc := 12) (text := "the code is out of range") thIA (by decide) rfl dX_codeAfter_12 dX_codeAfter_15 dX_codeAfter_16 dX_codeAfter_18 dX_codeAfter_21 (Nat.le_of_ble_eq_true rfl) (by omega) (by omega) (fun n2 hn2 => ⟨zOut.n rfl hn2, zfr.rf, hX9⟩)
    · have hb2 : ¬ y.toInt < -1 := fun q => hb (Int32.lt_iff_toInt_lt.mpr (by rw [em]; exact q))
      refine zs_iload_n (pc := 5) dX_codeAfter_5 rfl ?_
      refine zs_sipush (pc := 6) dX_codeAfter_6 (zi_s 1000 (by decide)) ?_
      refine zs_icmp_lt (pc := 9) 22 dX_codeAfter_9 rfl (fun h9 => absurd h9 (fun q => hv2 (by have := Int32.lt_iff_toInt_lt.mp q; rw [ek] at this; omega))) (fun _ => ?_)
      exact zs_throw (pc := 12) (text := "the code is out of range") thIA (by decide) rfl dX_codeAfter_12 dX_codeAfter_15 dX_codeAfter_16 dX_codeAfter_18 dX_codeAfter_21 (Nat.le_of_ble_eq_true rfl) (by omega) (by omega) (fun n2 hn2 => ⟨zOut.n rfl hn2, zfr.rf, hX9⟩)
  | true =>
    rw [if_pos rfl]
    obtain ⟨v1, v2⟩ := of_decide_eq_true hv
    have hy : ∀ m, m < 2 ^ 31 → (nI m ≤ y ↔ m < (y.toInt + 1).toNat) := fun m hm => by
      rw [Int32.le_iff_toInt_le, nI_toInt hm]
      omega
    have hc1 : (y.toInt + 1).toNat ≤ 1000 := by omega
    generalize (y.toInt + 1).toNat = c1 at hy hc1 ⊢
    refine zs_iload_n (pc := 0) dX_codeAfter_0 rfl ?_
    refine zs_iconst (pc := 1) dX_codeAfter_1 zi_m1 ?_
    refine zs_icmp_lt (pc := 2) 12 dX_codeAfter_2 rfl (fun h9 => absurd h9 (fun q => absurd (Int32.lt_iff_toInt_lt.mp q) (by rw [em]; omega))) (fun _ => ?_)
    refine zs_iload_n (pc := 5) dX_codeAfter_5 rfl ?_
    refine zs_sipush (pc := 6) dX_codeAfter_6 (zi_s 1000 (by decide)) ?_
    refine zs_icmp_lt (pc := 9) 22 dX_codeAfter_9 rfl (fun _ => ?_) (fun h9 => absurd h9 (fun q => q (Int32.lt_iff_toInt_lt.mpr (by rw [ek]; omega))))
    refine zs_sipush (pc := 22) dX_codeAfter_22 (zi_s 1000 (by decide)) ?_
    refine zs_istore_n (pc := 25) (ls2 := [_, _, _, _]) dX_codeAfter_25 (Nat.le_of_ble_eq_true rfl) rfl ?_
    refine zs_iconst (pc := 26) dX_codeAfter_26 zi_0 ?_
    refine zs_istore_n (pc := 27) (ls2 := [_, _, _, _]) dX_codeAfter_27 (Nat.le_of_ble_eq_true rfl) rfl ?_
    have hle : zAf g c1 ≤ 1000 := by
      unfold zAf
      by_cases e : zany (fun j => decide (0 < zres g 3 (c1 + j))) (1000 - c1) = true
      · have := (zfst_y _ e).1
        omega
      · rw [zfst_n _ (by simpa using e)]
        omega
    refine lp_X_codeAfter (c1 := c1) hl hd hx hC hp hA hI hB hy hc1 ?_ (g 0) 0 rfl 1000 ⟨Nat.le_refl _, Or.inl rfl, fun k hk => absurd hk (by omega)⟩
    by_cases e : zAf g c1 = 1000
    · rw [if_pos e]
      refine zs_iload_n (pc := 63) dX_codeAfter_63 rfl ?_
      refine zs_sipush (pc := 64) dX_codeAfter_64 (zi_s 1000 (by decide)) ?_
      refine zn_icmp_ne (pc := 67) 80 dX_codeAfter_67 rfl (by omega) (by omega) (fun h9 => absurd h9 (by omega)) (fun _ => ?_)
      exact zs_throwN (pc := 70) (text := "no greater code") thNS (by decide) rfl dX_codeAfter_70 dX_codeAfter_73 dX_codeAfter_74 dX_codeAfter_76 dX_codeAfter_79 (Nat.le_of_ble_eq_true rfl) (by omega) (by omega) (fun n2 hn2 => ⟨zOut.n rfl hn2, zfr.rf, hX9⟩)
    · rw [if_neg e]
      refine zs_iload_n (pc := 63) dX_codeAfter_63 rfl ?_
      refine zs_sipush (pc := 64) dX_codeAfter_64 (zi_s 1000 (by decide)) ?_
      refine zn_icmp_ne (pc := 67) 80 dX_codeAfter_67 rfl (by omega) (by omega) (fun _ => ?_) (fun h9 => absurd h9 (by omega))
      refine zs_iload_n (pc := 80) dX_codeAfter_80 rfl ?_
      exact zs_iret (pc := 81) dX_codeAfter_81 rfl rfl (by omega) (by omega) (⟨zOut.y, zfr.rf, hX9⟩)
/-! the entry most like another -/
def zbs (g : Nat → Nat) (k : Nat) : Nat → Nat
  | 0 => 0
  | j + 1 => if j ≠ k ∧ (zbs g k j = 0 ∨ zshare (eg g k) (eg g (zbs g k j - 1)) < zshare (eg g k) (eg g j)) then j + 1 else zbs g k j
theorem zbs_le {g : Nat → Nat} {k : Nat} : ∀ j, zbs g k j ≤ j := by
  intro j
  induction j with
  | zero => exact Nat.le_refl _
  | succ j ih => unfold zbs; split <;> omega
def aSim (g : Nat → Nat) (y : Int32) : Nat × Int32 := if zHas g y = true then (if zbs g (zAt g y) (g 0) = 0 then (1, -1) else (0, nI (eg g (zbs g (zAt g y) (g 0) - 1) 0))) else (1, -1)
def zb3 (g : Nat → Nat) (b : Nat) : Int32 := if b = 0 then -1 else nI (eg g (b - 1) 0)
def zb4 (g : Nat → Nat) (k b : Nat) : Int32 := if b = 0 then -1 else nI (zshare (eg g k) (eg g (b - 1)))
theorem lp_X_mostSimilar {Γ : zG} {l : Launch} (hl : l.stackTraces = false) {d : Nat} (hd : 4 ≤ d) {h : zH} {n : Nat} {x st B k : Nat} {sv : Bool} {er fl : Option Nat} {g : Nat → Nat} {p : Nat → Nat} {Q : Nat → Nat → Nat} {mc ms : Nat} {FN : List Frame → Array Value → State → State → Prop} (hx : h x = some (zXo x st sv er fl)) (hC : CH h (x + 1) p Q (zFg g)) (hp : PM p) (hA : ∀ j, j < g 0 → zAg (Q (p j)) (eg g j)) (hI : IG B g) (hB : B < 2 ^ 20) (hk : k < g 0) (K : ∀ x6 x7, Z Γ l mX_mostSimilar d mc ms FN 78 [some (.ref x), some (.int (nI (eg g k 0))), some (.ref (x + 1 + 2 + 2 * p k)), some (.int (zb3 g (zbs g k (g 0)))), some (.int (zb4 g k (zbs g k (g 0)))), some (.int (nI (g 0))), x6, x7] [] h n 0 0) : ∀ i j, i + j = g 0 → ∀ x6 x7, Z Γ l mX_mostSimilar d mc ms FN 14 [some (.ref x), some (.int (nI (eg g k 0))), some (.ref (x + 1 + 2 + 2 * p k)), some (.int (zb3 g (zbs g k j))), some (.int (zb4 g k (zbs g k j))), some (.int (nI j)), x6, x7] [] h n 0 0 := by
  have i0 := hI.1
  have e1 : zFg g 1 = g 0 := rfl
  have h0 := hC.2.2 (p k) (hp.1 k (by omega))
  have hAk := hA k hk
  have hbk := hAk.b (hI.b hB hk)
  have hik := (hI.b hB hk).1
  intro i
  induction i with
  | zero =>
    intro j hj x6 x7
    obtain rfl : j = g 0 := by omega
    refine zs_iload (pc := 14) dX_mostSimilar_14 rfl ?_
    refine zs_aload_n (pc := 16) dX_mostSimilar_16 rfl ?_
    refine zs_get (pc := 17) dX_mostSimilar_17 fX_12 (by first | exact hx | exact hC.1 | exact hC.2.1 | exact he.1) (by rfl) ?_
    refine zs_get (pc := 20) dX_mostSimilar_20 fX_115 (by first | exact hx | exact hC.1 | exact hC.2.1 | exact he.1) (by rfl) ?_
    refine zn_icmp_ge (pc := 23) 78 dX_mostSimilar_23 rfl (by omega) (by omega) (fun _ => ?_) (fun h9 => absurd h9 (by omega))
    exact K x6 x7
  | succ i ih =>
    intro j hj x6 x7
    have hz := ih (j + 1) (by omega)
    have hA1 := hA j (by omega)
    have he := hC.2.2 (p j) (hp.1 j (by omega))
    have hb := hA1.b (hI.b hB (j := j) (by omega))
    have hij := (hI.b hB (j := j) (by omega)).1
    have hb9 := zbs_le (g := g) (k := k) j
    have hs1 : zshare (eg g k) (eg g j) ≤ eg g k 5 := zcnt_le _ _
    have hs2 : zshare (eg g k) (eg g (zbs g k j - 1)) ≤ eg g k 5 := zcnt_le _ _
    have h6 := hI.s6 k hk
    have hbs : zbs g k (j + 1) = if j ≠ k ∧ (zbs g k j = 0 ∨ zshare (eg g k) (eg g (zbs g k j - 1)) < zshare (eg g k) (eg g j)) then j + 1 else zbs g k j := rfl
    refine zs_iload (pc := 14) dX_mostSimilar_14 rfl ?_
    refine zs_aload_n (pc := 16) dX_mostSimilar_16 rfl ?_
    refine zs_get (pc := 17) dX_mostSimilar_17 fX_12 (by first | exact hx | exact hC.1 | exact hC.2.1 | exact he.1) (by rfl) ?_
    refine zs_get (pc := 20) dX_mostSimilar_20 fX_115 (by first | exact hx | exact hC.1 | exact hC.2.1 | exact he.1) (by rfl) ?_
    refine zn_icmp_ge (pc := 23) 78 dX_mostSimilar_23 rfl (by omega) (by omega) (fun h9 => absurd h9 (by omega)) (fun _ => ?_)
    refine zs_aload_n (pc := 26) dX_mostSimilar_26 rfl ?_
    refine zs_get (pc := 27) dX_mostSimilar_27 fX_12 (by first | exact hx | exact hC.1 | exact hC.2.1 | exact he.1) (by rfl) ?_
    refine zs_get (pc := 30) dX_mostSimilar_30 fX_120 (by first | exact hx | exact hC.1 | exact hC.2.1 | exact he.1) (by rfl) ?_
    refine zs_iload (pc := 33) dX_mostSimilar_33 rfl ?_
    refine zn_aald (pc := 35) (Or.inl rfl) dX_mostSimilar_35 (by first | exact hx | exact hC.1 | exact hC.2.1 | exact he.1) (by omega) (by decide) (by rfl) ?_
    refine zs_astore (pc := 36) (ls2 := [_, _, _, _, _, _, _, _]) dX_mostSimilar_36 (Nat.le_of_ble_eq_true rfl) rfl ?_
    refine zs_aload_n (pc := 38) dX_mostSimilar_38 rfl ?_
    refine zs_aload (pc := 39) dX_mostSimilar_39 rfl ?_
    refine zcV1_1 (pc := 41) (d2 := d - 1) (s_E_countShared hl (by omega) hbk h0.1 h0.2 hb he.1 he.2) dX_mostSimilar_41 kX_233 mdE_countShared miE_countShared mvE_countShared rfl (by first | exact hx | exact h0.1) rfl (Nat.le_of_ble_eq_true rfl) (by omega) (by omega) (by omega) ?_
    refine zs_istore (pc := 44) (ls2 := [_, _, _, _, _, _, _, _]) dX_mostSimilar_44 (Nat.le_of_ble_eq_true rfl) rfl ?_
    refine zs_aload (pc := 46) dX_mostSimilar_46 rfl ?_
    refine zs_get (pc := 48) dX_mostSimilar_48 fX_124 (by first | exact hx | exact hC.1 | exact hC.2.1 | exact he.1) (by rfl) ?_
    rw [hAk.share hA1, hA1 0 (by omega)]
    refine zs_iload_n (pc := 51) dX_mostSimilar_51 rfl ?_
    by_cases ejk : j = k
    · subst ejk
      rw [if_neg (by rintro ⟨q, -⟩; exact q rfl)] at hbs
      rw [hbs] at hz
      refine zn_icmp_eq (pc := 52) 72 dX_mostSimilar_52 rfl (by omega) (by omega) (fun _ => ?_) (fun h9 => absurd h9 (by omega))
      refine zn_iinc (pc := 72) (ls2 := [_, _, _, _, _, _, _, _]) dX_mostSimilar_72 rfl (Nat.le_of_ble_eq_true rfl) rfl ?_
      refine zs_goto (pc := 75) 14 dX_mostSimilar_75 rfl ?_
      exact hz _ _
    · have hne := hI.ne (i := j) (by omega) hk ejk
      refine zn_icmp_eq (pc := 52) 72 dX_mostSimilar_52 rfl (by omega) (by omega) (fun h9 => absurd h9 (by omega)) (fun _ => ?_)
      refine zs_iload (pc := 55) dX_mostSimilar_55 rfl ?_
      refine zs_iload (pc := 57) dX_mostSimilar_57 rfl ?_
      by_cases eb : zbs g k j = 0
      · rw [if_pos ⟨ejk, Or.inl eb⟩] at hbs
        rw [hbs] at hz
        have e4 : zb4 g k (zbs g k j) = -1 := if_pos eb
        rw [e4]
        refine zs_icmp_le (pc := 59) 72 dX_mostSimilar_59 rfl (fun h9 => absurd h9 (fun q => absurd (Int32.lt_iff_toInt_lt.mpr (by rw [nI_toInt (by omega), show (-1 : Int32).toInt = -1 by decide]; omega)) (Int32.not_lt.mpr q))) (fun _ => ?_)
        refine zs_aload (pc := 62) dX_mostSimilar_62 rfl ?_
        refine zs_get (pc := 64) dX_mostSimilar_64 fX_124 (by first | exact hx | exact hC.1 | exact hC.2.1 | exact he.1) (by rfl) ?_
        rw [hA1 0 (by omega)]
        refine zs_istore_n (pc := 67) (ls2 := [_, _, _, _, _, _, _, _]) dX_mostSimilar_67 (Nat.le_of_ble_eq_true rfl) rfl ?_
        refine zs_iload (pc := 68) dX_mostSimilar_68 rfl ?_
        refine zs_istore (pc := 70) (ls2 := [_, _, _, _, _, _, _, _]) dX_mostSimilar_70 (Nat.le_of_ble_eq_true rfl) rfl ?_
        refine zn_iinc (pc := 72) (ls2 := [_, _, _, _, _, _, _, _]) dX_mostSimilar_72 rfl (Nat.le_of_ble_eq_true rfl) rfl ?_
        refine zs_goto (pc := 75) 14 dX_mostSimilar_75 rfl ?_
        exact hz _ _
      · have e4 : zb4 g k (zbs g k j) = nI (zshare (eg g k) (eg g (zbs g k j - 1))) := if_neg eb
        by_cases ec : zshare (eg g k) (eg g (zbs g k j - 1)) < zshare (eg g k) (eg g j)
        · rw [if_pos ⟨ejk, Or.inr ec⟩] at hbs
          rw [hbs] at hz
          rw [e4]
          refine zn_icmp_le (pc := 59) 72 dX_mostSimilar_59 rfl (by omega) (by omega) (fun h9 => absurd h9 (by omega)) (fun _ => ?_)
          refine zs_aload (pc := 62) dX_mostSimilar_62 rfl ?_
          refine zs_get (pc := 64) dX_mostSimilar_64 fX_124 (by first | exact hx | exact hC.1 | exact hC.2.1 | exact he.1) (by rfl) ?_
          rw [hA1 0 (by omega)]
          refine zs_istore_n (pc := 67) (ls2 := [_, _, _, _, _, _, _, _]) dX_mostSimilar_67 (Nat.le_of_ble_eq_true rfl) rfl ?_
          refine zs_iload (pc := 68) dX_mostSimilar_68 rfl ?_
          refine zs_istore (pc := 70) (ls2 := [_, _, _, _, _, _, _, _]) dX_mostSimilar_70 (Nat.le_of_ble_eq_true rfl) rfl ?_
          refine zn_iinc (pc := 72) (ls2 := [_, _, _, _, _, _, _, _]) dX_mostSimilar_72 rfl (Nat.le_of_ble_eq_true rfl) rfl ?_
          refine zs_goto (pc := 75) 14 dX_mostSimilar_75 rfl ?_
          exact hz _ _
        · rw [if_neg (by rintro ⟨-, q | q⟩; exact eb q; exact ec q)] at hbs
          rw [hbs] at hz
          have hz2 := hz
          rw [e4] at hz2 ⊢
          refine zn_icmp_le (pc := 59) 72 dX_mostSimilar_59 rfl (by omega) (by omega) (fun _ => ?_) (fun h9 => absurd h9 (by omega))
          refine zn_iinc (pc := 72) (ls2 := [_, _, _, _, _, _, _, _]) dX_mostSimilar_72 rfl (Nat.le_of_ble_eq_true rfl) rfl ?_
          refine zs_goto (pc := 75) 14 dX_mostSimilar_75 rfl ?_
          exact hz2 _ _
theorem s_X_mostSimilar {Γ : zG} {l : Launch} (hl : l.stackTraces = false) {d : Nat} (hd : 4 ≤ d) {h : zH} {n : Nat} {B x c np : Nat} {g T : Nat → Nat} {P : Nat → Nat → Nat} {sv : Option (Nat → Nat)} {er fl : Option Nat} {L : List Nat} (hX : XR B h x g P c sv er fl T np L) (hB : B < 2 ^ 20) (y : Int32) : zC Γ l d mX_mostSimilar [.ref x, .int y] h n 1 6 (zXq x h n ["", sNS] (aSim g y) (fun h1 => XR B h1 x g P c sv er fl T np L)) := by
  have hX9 := hX; obtain ⟨⟨st, hst, hx, htr⟩, hR, hI, hsv, hH, hrk, hpg, hn60, hTc, hL, hag⟩ := hX; have i0 := hI.1
  obtain ⟨p, Q, hC, hp, hA⟩ := hR
  unfold aSim
  refine zC_of (ls := [some (.ref x), some (.int y), none, none, none, none, none, none]) hl (by decide +kernel) rfl (Nat.le_of_ble_eq_true rfl) rfl ?_
  cases hH : zHas g y with
  | false =>
    rw [if_neg (by decide)]
    refine zs_aload_n (pc := 0) dX_mostSimilar_0 rfl ?_
    refine zs_iload_n (pc := 1) dX_mostSimilar_1 rfl ?_
    refine zcVT_1 (pc := 2) (d2 := d - 1) (s_X_existing_n hl (by omega) hx hC hp hA hI hH) dX_mostSimilar_2 kX_127 mdX_existing miX_existing mvX_existing rfl (by first | exact hx | exact h0.1) rfl (Nat.le_of_ble_eq_true rfl) (by omega) (by omega) (by omega) rfl (fun n2 hn2 => ?_)
    exact ⟨zOut.n rfl hn2, zfr.rf, hX9⟩
  | true =>
    rw [if_pos rfl]
    obtain ⟨f1, f2, f3⟩ := zHas_y hH
    generalize zAt g y = k at f1 f2 f3 ⊢
    subst f2
    have hb9 := zbs_le (g := g) (k := k) (g 0)
    refine zs_aload_n (pc := 0) dX_mostSimilar_0 rfl ?_
    refine zs_iload_n (pc := 1) dX_mostSimilar_1 rfl ?_
    refine zcV1_1 (pc := 2) (d2 := d - 1) (s_X_existing_y hl (by omega) hx hC hp hA hI f1 rfl f3) dX_mostSimilar_2 kX_127 mdX_existing miX_existing mvX_existing rfl (by first | exact hx | exact h0.1) rfl (Nat.le_of_ble_eq_true rfl) (by omega) (by omega) (by omega) ?_
    refine zs_astore_n (pc := 5) (ls2 := [_, _, _, _, _, _, _, _]) dX_mostSimilar_5 (Nat.le_of_ble_eq_true rfl) rfl ?_
    refine zs_iconst (pc := 6) dX_mostSimilar_6 zi_m1 ?_
    refine zs_istore_n (pc := 7) (ls2 := [_, _, _, _, _, _, _, _]) dX_mostSimilar_7 (Nat.le_of_ble_eq_true rfl) rfl ?_
    refine zs_iconst (pc := 8) dX_mostSimilar_8 zi_m1 ?_
    refine zs_istore (pc := 9) (ls2 := [_, _, _, _, _, _, _, _]) dX_mostSimilar_9 (Nat.le_of_ble_eq_true rfl) rfl ?_
    refine zs_iconst (pc := 11) dX_mostSimilar_11 zi_0 ?_
    refine zs_istore (pc := 12) (ls2 := [_, _, _, _, _, _, _, _]) dX_mostSimilar_12 (Nat.le_of_ble_eq_true rfl) rfl ?_
    refine lp_X_mostSimilar (k := k) hl hd hx hC hp hA hI hB f1 (fun x6 x7 => ?_) (g 0) 0 rfl _ _
    by_cases eb : zbs g k (g 0) = 0
    · have e3 : zb3 g (zbs g k (g 0)) = -1 := if_pos eb
      rw [if_pos eb, e3]
      refine zs_iload_n (pc := 78) dX_mostSimilar_78 rfl ?_
      refine zs_iconst (pc := 79) dX_mostSimilar_79 zi_m1 ?_
      refine zs_icmp_ne (pc := 80) 93 dX_mostSimilar_80 rfl (fun h9 => absurd h9 (fun q => q rfl)) (fun _ => ?_)
      exact zs_throwN (pc := 83) (text := "no other entry") thNS (by decide) rfl dX_mostSimilar_83 dX_mostSimilar_86 dX_mostSimilar_87 dX_mostSimilar_89 dX_mostSimilar_92 (Nat.le_of_ble_eq_true rfl) (by omega) (by omega) (fun n2 hn2 => ⟨zOut.n rfl hn2, zfr.rf, hX9⟩)
    · have e3 : zb3 g (zbs g k (g 0)) = nI (eg g (zbs g k (g 0) - 1) 0) := if_neg eb
      have hib := (hI.b hB (j := zbs g k (g 0) - 1) (by omega)).1
      have hne : ¬ nI (eg g (zbs g k (g 0) - 1) 0) = -1 := fun q => by
        have h9 := nI_pos (n := eg g (zbs g k (g 0) - 1) 0) (by omega)
        rw [q] at h9
        exact h9 (by decide)
      rw [if_neg eb, e3]
      refine zs_iload_n (pc := 78) dX_mostSimilar_78 rfl ?_
      refine zs_iconst (pc := 79) dX_mostSimilar_79 zi_m1 ?_
      refine zs_icmp_ne (pc := 80) 93 dX_mostSimilar_80 rfl (fun _ => ?_) (fun h9 => absurd h9 (hne))
      refine zs_iload_n (pc := 93) dX_mostSimilar_93 rfl ?_
      exact zs_iret (pc := 94) dX_mostSimilar_94 rfl rfl (by omega) (by omega) (⟨zOut.y, zfr.rf, hX9⟩)

