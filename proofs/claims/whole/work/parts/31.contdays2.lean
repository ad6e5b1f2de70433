/-! many days -/
def zdayW (g : Nat → Nat) : Nat → Nat := zfal (zage g) (g 0)
def zdaysW (g : Nat → Nat) : Nat → (Nat → Nat)
  | 0 => g
  | k + 1 => zdayW (zdaysW g k)
theorem zage_u5 {g : Nat → Nat} {v : Nat} : zage (zup g 5 v) = zup (zage g) 5 v := by
  funext j
  unfold zage zup
  by_cases h : j = 5
  · subst h
    rw [if_neg (by omega), if_pos rfl, if_pos rfl]
  · rw [if_neg h, if_neg h, if_neg (by decide : ¬ (0 : Nat) = 5)]
theorem zlv_u5 {g : Nat → Nat} {v k : Nat} : zlv (zup g 5 v) k = zup (zlv g k) 5 v := by
  funext j
  unfold zlv zup
  by_cases h : j = 5
  · subst h
    rw [if_neg (by decide), if_pos (by omega), if_pos rfl, if_pos rfl]
  · rw [if_neg h, if_neg h, if_neg (by decide : ¬ (0 : Nat) = 5), if_neg (by omega : ¬ j + 12 = 5)]
theorem zbad_u5 {g : Nat → Nat} {v k : Nat} : zbad (zup g 5 v) k = zbad g k := by
  unfold zbad
  rw [eg_up (by decide)]
theorem zfal_u5 {v : Nat} : ∀ (k : Nat) (g : Nat → Nat), zfal (zup g 5 v) k = zup (zfal g k) 5 v := by
  intro k
  induction k with
  | zero => intro g; rfl
  | succ k ih =>
    intro g
    cases hz : zbad g k with
    | true => rw [zfal_y hz, zfal_y (zbad_u5.trans hz), zlv_u5, ih]
    | false => rw [zfal_n hz, zfal_n (zbad_u5.trans hz), ih]
theorem zup_zup {g : Nat → Nat} {i v w : Nat} : zup (zup g i v) i w = zup g i w := by
  funext j
  unfold zup
  split <;> rfl
theorem zup_id {g : Nat → Nat} {i v : Nat} (h : g i = v) : zup g i v = g := by
  funext j
  unfold zup
  split
  · rename_i e; rw [e, h]
  · rfl
theorem zdayW_le {g : Nat → Nat} : zdayW g 0 ≤ g 0 := by
  have h := zfal_le (g 0) (zage g)
  rw [zage_lo (by decide)] at h
  exact h
theorem zdaysW_5 {g : Nat → Nat} : ∀ k, zdaysW g k 5 = g 5 := by
  intro k
  induction k with
  | zero => rfl
  | succ k ih =>
    show zfal (zage (zdaysW g k)) _ 5 = _
    rw [zfal_lo _ _ _ (by decide) (by decide), zage_lo (by decide), ih]
theorem zdaysW_le {g : Nat → Nat} : ∀ k, zdaysW g k 0 ≤ g 0 := by
  intro k
  induction k with
  | zero => exact Nat.le_refl _
  | succ k ih => exact Nat.le_trans zdayW_le ih
theorem zday_u5 {g : Nat → Nat} {v : Nat} : zday (zup g 5 v) = zup (zdayW g) 5 (v + (g 0 - zdayW g 0)) := by
  unfold zday zdayW
  rw [zage_u5, zfal_u5, zup_zup]
  rfl
theorem zdays_W {g : Nat → Nat} : ∀ k, zdays g k = zup (zdaysW g k) 5 (g 5 + (g 0 - zdaysW g k 0)) := by
  intro k
  induction k with
  | zero =>
    show g = zup g 5 (g 5 + (g 0 - g 0))
    rw [Nat.sub_self]
    exact (zup_id rfl).symm
  | succ k ih =>
    show zday (zdays g k) = zup (zdayW (zdaysW g k)) 5 (g 5 + (g 0 - zdayW (zdaysW g k) 0))
    rw [ih, zday_u5]
    have h1 := zdaysW_le (g := g) k
    have h2 := zdayW_le (g := zdaysW g k)
    have e : g 5 + (g 0 - zdaysW g k 0) + (zdaysW g k 0 - zdayW (zdaysW g k) 0) = g 5 + (g 0 - zdayW (zdaysW g k) 0) := by omega
    rw [e]
theorem IK.dayW {B c : Nat} {g : Nat → Nat} (h : IK B c g 0) : IK B (c + (g 0 - zdayW g 0)) (zdayW g) 0 := by
  have e0 : zage g 0 = g 0 := zage_lo (by decide)
  have h2 := IK.fal (g 0) c (zage g) h.age (by omega)
  rw [e0] at h2
  exact h2
theorem IG.daysW {B : Nat} {g : Nat → Nat} (h : IG B g) : ∀ k, IK B (g 0 - zdaysW g k 0) (zdaysW g k) 0 := by
  intro k
  induction k with
  | zero =>
    show IK B (g 0 - g 0) g 0
    rw [Nat.sub_self]
    have h1 := h.K
    exact h1
  | succ k ih =>
    have h1 := ih.dayW
    have h2 := zdaysW_le (g := g) k
    have h3 := zdayW_le (g := zdaysW g k)
    have e : g 0 - zdaysW g k 0 + (zdaysW g k 0 - zdayW (zdaysW g k) 0) = g 0 - zdayW (zdaysW g k) 0 := by omega
    rw [e] at h1
    exact h1
theorem lp_C_passDays {Γ : zG} {l : Launch} (hl : l.stackTraces = false) {d : Nat} (hd : 3 ≤ d) {h : zH} {n : Nat} {B r days : Nat} {g : Nat → Nat} (hI : IG B g) (hB : B < 2 ^ 20) (hdy : days ≤ 60) : ∀ i j, i + j = days → ∀ h1 : zH, CR h1 r (zdaysW g j) → zfr r 42 h h1 → Z Γ l mC_passDays d 0 0 (zFin Γ (zCq r h n 9 (0, zdays g days 5 - g 5, zdays g days)) 0 0) 18 [some (.ref r), some (.int (nI days)), some (.int (nI (g 0 - zdaysW g j 0))), some (.int (nI j))] [] h1 n 0 0 := by
  intro i
  induction i with
  | zero =>
    intro j hj h1 hR hfr
    obtain rfl : j = days := by omega
    obtain ⟨p, Q, hC2, hp, hA⟩ := hR
    refine zs_iload_n (pc := 18) dC_passDays_18 rfl ?_
    refine zs_iload_n (pc := 19) dC_passDays_19 rfl ?_
    refine zn_icmp_ge (pc := 20) 36 dC_passDays_20 rfl (by omega) (by omega) (fun _ => ?_) (fun h9 => absurd h9 (by omega))
    refine zs_aload_n (pc := 36) dC_passDays_36 rfl ?_
    refine zs_dup (pc := 37) dC_passDays_37 rfl ?_
    refine zs_get (pc := 38) dC_passDays_38 fC_36 (by first | exact hC2.1 | exact zu_s) (by rfl) ?_
    refine zs_iload_n (pc := 41) dC_passDays_41 rfl ?_
    refine zn_iadd (pc := 42) dC_passDays_42 ?_
    refine zs_put (pc := 43) (fs2 := [_, _, _, _, _, _, _, _]) dC_passDays_43 fC_36 (by first | exact hC2.1 | exact zu_s) (by rfl) (by rfl) (by exact Nat.le_of_ble_eq_true rfl) (by rfl) ?_
    refine zs_iload_n (pc := 46) dC_passDays_46 rfl ?_
    have e5 : zFg (zdaysW g j) 7 = g 5 := zdaysW_5 j
    have ez : zdays g j = zup (zdaysW g j) 5 (g 5 + (g 0 - zdaysW g j 0)) := zdays_W j
    have e1 : zdays g j 5 - g 5 = g 0 - zdaysW g j 0 := by rw [ez, zup_s]; omega
    rw [e5, e1, ez]
    have hC3 : CH _ r p Q (fun i => if i = 7 then g 5 + (g 0 - zdaysW g j 0) else zFg (zdaysW g j) i) := hC2.setF _
    have hCR := CR.mk (g2 := zup (zdaysW g j) 5 (g 5 + (g 0 - zdaysW g j 0))) hC3 hp rfl rfl rfl rfl rfl rfl rfl (fun k hk => by rw [eg_up (by decide)]; exact hA k hk)
    exact zs_iret (pc := 47) dC_passDays_47 rfl rfl (by omega) (by omega) (⟨rfl, rfl, hfr.tr (zfr.u (by omega) (by omega)), hCR⟩)
  | succ i ih =>
    intro j hj h1 hR hfr
    have hC : ∃ F, h1 r = some (zCo F (r + 1)) := by
      obtain ⟨p, Q, hC, -⟩ := hR
      exact ⟨_, hC.1⟩
    obtain ⟨F, hC⟩ := hC
    have hIK := hI.daysW j
    refine zs_iload_n (pc := 18) dC_passDays_18 rfl ?_
    refine zs_iload_n (pc := 19) dC_passDays_19 rfl ?_
    refine zn_icmp_ge (pc := 20) 36 dC_passDays_20 rfl (by omega) (by omega) (fun h9 => absurd h9 (by omega)) (fun _ => ?_)
    refine zs_iload_n (pc := 23) dC_passDays_23 rfl ?_
    refine zs_aload_n (pc := 24) dC_passDays_24 rfl ?_
    refine zcVQ_0 (pc := 25) (d2 := d - 1) (s_C_passDay hl (by omega) hR hIK hB) dC_passDays_25 kC_131 mdC_passDay miC_passDay mvC_passDay rfl (by exact hC) rfl (Nat.le_of_ble_eq_true rfl) (by omega) (by omega) (by omega) (fun v h1 n1 hq => ?_) (fun E h1 n1 hq => ?_)
    · obtain ⟨h1e, rfl, h1f, h1R⟩ := hq
      obtain rfl := Sum.inl.inj h1e
      refine zn_iadd (pc := 28) dC_passDays_28 ?_
      refine zs_istore_n (pc := 29) (ls2 := [_, _, _, _]) dC_passDays_29 (Nat.le_of_ble_eq_true rfl) rfl ?_
      refine zn_iinc (pc := 30) (ls2 := [_, _, _, _]) dC_passDays_30 rfl (Nat.le_of_ble_eq_true rfl) rfl ?_
      refine zs_goto (pc := 33) 18 dC_passDays_33 rfl ?_
      have h2 := zdaysW_le (g := g) j
      have h3 := zdayW_le (g := zdaysW g j)
      have e : g 0 - zdaysW g j 0 + (zdaysW g j 0 - zfal (zage (zdaysW g j)) (zdaysW g j 0) 0) = g 0 - zdaysW g (j + 1) 0 := by
        have e2 : zdaysW g (j + 1) 0 = zfal (zage (zdaysW g j)) (zdaysW g j 0) 0 := rfl
        have e3 : zdayW (zdaysW g j) 0 = zfal (zage (zdaysW g j)) (zdaysW g j 0) 0 := rfl
        omega
      rw [e]
      exact ih (j + 1) (by omega) _ h1R (hfr.tr h1f)
    · exact absurd hq.1 (by intro q; cases q)
theorem s_C_passDays {Γ : zG} {l : Launch} (hl : l.stackTraces = false) {d : Nat} (hd : 3 ≤ d) {h : zH} {n : Nat} {B r : Nat} {g : Nat → Nat} (hR : CR h r g) (hI : IG B g) (hB : B < 2 ^ 20) (x : Int32) : zC Γ l d mC_passDays [.ref r, .int x] h n 0 0 (zCq r h n 9 (zopPass g x)) := by
  refine zC_of (ls := [some (.ref r), some (.int x), none, none]) hl (by decide +kernel) rfl (Nat.le_of_ble_eq_true rfl) rfl ?_
  unfold zopPass
  cases hv : zV x 1 60 with
  | false =>
    rw [if_neg (by decide)]
    have hx := zV_n (by decide) hv
    refine zs_iload_n (pc := 0) dC_passDays_0 rfl ?_
    refine zs_iconst (pc := 1) dC_passDays_1 zi_1 ?_
    refine zs_icmp_lt (pc := 2) 11 dC_passDays_2 rfl (fun hb => ?_) (fun hb => ?_)
    · refine zs_bipush (pc := 11) (v := -2) dC_passDays_11 (by decide) ?_
      exact zs_iret (pc := 13) dC_passDays_13 rfl rfl (by omega) (by omega) (⟨rfl, rfl, zfr.rf, hR⟩)
    · refine zs_iload_n (pc := 5) dC_passDays_5 rfl ?_
      refine zs_bipush (pc := 6) dC_passDays_6 (zi_b 60 (by decide)) ?_
      refine zs_icmp_le (pc := 8) 14 dC_passDays_8 rfl (fun hb2 => ?_) (fun hb2 => ?_)
      · exfalso
        have a1 : ¬ x < nI 1 := hb
        have a2 : x ≤ nI 60 := hb2
        have a3 := Int32.le_iff_toInt_le.mp a2
        have a4 := Int32.le_iff_toInt_le.mp (Int32.not_lt.mp a1)
        rw [nI_toInt (by decide)] at a3
        rw [nI_toInt (by decide)] at a4
        exact hx ⟨x.toInt.toNat, by omega, by omega, z_nI (by omega)⟩
      · refine zs_bipush (pc := 11) (v := -2) dC_passDays_11 (by decide) ?_
        exact zs_iret (pc := 13) dC_passDays_13 rfl rfl (by omega) (by omega) (⟨rfl, rfl, zfr.rf, hR⟩)
  | true =>
    rw [if_pos rfl]
    obtain ⟨v1, v2, v3⟩ := zV_y hv
    generalize x.toInt.toNat = days at v1 v2 v3 ⊢
    subst v3
    refine zs_iload_n (pc := 0) dC_passDays_0 rfl ?_
    refine zs_iconst (pc := 1) dC_passDays_1 zi_1 ?_
    refine zn_icmp_lt (pc := 2) 11 dC_passDays_2 rfl (by omega) (by omega) (fun h9 => absurd h9 (by omega)) (fun _ => ?_)
    refine zs_iload_n (pc := 5) dC_passDays_5 rfl ?_
    refine zs_bipush (pc := 6) dC_passDays_6 (zi_b 60 (by decide)) ?_
    refine zn_icmp_le (pc := 8) 14 dC_passDays_8 rfl (by omega) (by omega) (fun _ => ?_) (fun h9 => absurd h9 (by omega))
    refine zs_iconst (pc := 14) dC_passDays_14 zi_0 ?_
    refine zs_istore_n (pc := 15) (ls2 := [_, _, _, _]) dC_passDays_15 (Nat.le_of_ble_eq_true rfl) rfl ?_
    refine zs_iconst (pc := 16) dC_passDays_16 zi_0 ?_
    refine zs_istore_n (pc := 17) (ls2 := [_, _, _, _]) dC_passDays_17 (Nat.le_of_ble_eq_true rfl) rfl ?_
    have h9 := lp_C_passDays (Γ := Γ) hl hd (h := h) (n := n) hI hB v2 days 0 (by omega) h hR zfr.rf
    have e : g 0 - zdaysW g 0 0 = 0 := Nat.sub_self _
    rw [e] at h9
    exact h9

