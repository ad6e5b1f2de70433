/-! the contents' commands: search, days -/
def zhitN (g : Nat → Nat) (dn v m : Nat) : Nat → Nat := fun j => if 6 ≤ j ∧ (j - 6) / 12 < m ∧ 0 < zmany (eg g ((j - 6) / 12)) dn v then (if (j - 6) % 12 = 2 then 0 else if (j - 6) % 12 = 3 then g j + 1 else g j) else g j
theorem zhit_N {g : Nat → Nat} {dn v : Nat} : zhit g dn v = zhitN g dn v (g 0) := rfl
theorem zhitN_lo {g : Nat → Nat} {dn v m j : Nat} (h : j < 6) : zhitN g dn v m j = g j := by unfold zhitN; rw [if_neg (by omega)]
theorem eg_hit {g : Nat → Nat} {dn v m k i : Nat} (hi : i < 12) : eg (zhitN g dn v m) k i = if k < m ∧ 0 < zmany (eg g k) dn v then (if i = 2 then 0 else if i = 3 then eg g k i + 1 else eg g k i) else eg g k i := by
  unfold zhitN
  show (if _ then _ else _) = _
  rw [show (6 + 12 * k + i - 6) / 12 = k by omega, show (6 + 12 * k + i - 6) % 12 = i by omega]
  by_cases h : k < m ∧ 0 < zmany (eg g k) dn v
  · rw [if_pos h, if_pos ⟨by omega, h⟩]; rfl
  · rw [if_neg h, if_neg (fun q => h q.2)]; rfl
theorem lp_C_hitAll {Γ : zG} {l : Launch} (hl : l.stackTraces = false) {d : Nat} (hd : 3 ≤ d) {h : zH} {n : Nat} {B r dn v : Nat} {g : Nat → Nat} {p : Nat → Nat} (hp : PM p) (hI : IG B g) (hB : B < 2 ^ 20) (hdn : dn ≤ 3) (hv : v < 2 ^ 31) : ∀ i j, i + j = g 0 → ∀ (h1 : zH) (Q : Nat → Nat → Nat) (x5 : Option Value), CH h1 r p Q (zFg g) → zfr r 42 h h1 → (∀ k, k < g 0 → zAg (Q (p k)) (eg (zhitN g dn v j) k)) → Z Γ l mC_hitAll d 0 0 (zFin Γ (zCq r h n 8 (0, zres g dn v, zhit g dn v)) 0 0) 16 [some (.ref r), some (.int (nI dn)), some (.int (nI v)), some (.int (nI (zcnt (fun k => decide (0 < zmany (eg g k) dn v)) j))), some (.int (nI j)), x5] [] h1 n 0 0 := by
  have i0 := hI.1
  have e1 : zFg g 1 = g 0 := rfl
  intro i
  induction i with
  | zero =>
    intro j hj h1 Q x5 hC hfr hA
    have e9 : j = g 0 := by omega
    subst e9
    have hCR := CR.mk (g2 := zhit g dn v) hC hp (zhitN_lo (j := 0) (by decide)).symm (zhitN_lo (j := 1) (by decide)).symm (zhitN_lo (j := 2) (by decide)).symm (zhitN_lo (j := 1) (by decide)).symm (zhitN_lo (j := 3) (by decide)).symm (zhitN_lo (j := 4) (by decide)).symm (zhitN_lo (j := 5) (by decide)).symm (fun j hj => hA j (by rw [zhit_N, zhitN_lo (by decide)] at hj; exact hj))
    refine zs_iload (pc := 16) dC_hitAll_16 rfl ?_
    refine zs_aload_n (pc := 18) dC_hitAll_18 rfl ?_
    refine zs_get (pc := 19) dC_hitAll_19 fC_17 (by first | exact hC.1 | exact hC.2.1 | exact h0.1 | exact zu_s) (by rfl) ?_
    refine zn_icmp_ge (pc := 22) 70 dC_hitAll_22 rfl (by omega) (by omega) (fun _ => ?_) (fun h9 => absurd h9 (by omega))
    refine zs_iload_n (pc := 70) dC_hitAll_70 rfl ?_
    exact zs_iret (pc := 71) dC_hitAll_71 rfl rfl (by omega) (by omega) (⟨rfl, rfl, hfr, hCR⟩)
  | succ i ih =>
    intro j hj h1 Q x5 hC hfr hA
    have hpj := hp.1 j (by omega)
    have h0 := hC.2.2 _ hpj
    have o6 := hI.s6 j (by omega)
    have hAj : zAg (Q (p j)) (eg g j) := by
      refine (hA j (by omega)).eqv (by rw [eg_hit (by decide), if_neg (by omega)]; exact o6) (fun a ha => ?_)
      rw [eg_hit ha, if_neg (by omega)]
    have hb := hAj.b (hI.b hB (j := j) (by omega))
    have hcl := zcnt_le (fun k => decide (0 < zmany (eg g k) dn v)) j
    have hmm := hAj.many dn v
    have hm6 : zmany (eg g j) dn v ≤ eg g j 5 := zcnt_le _ _
    have b3 := hb.2.2.2.1
    have hoth : ∀ k, k < g 0 → k ≠ j → ∀ Q2 : Nat → Nat → Nat, Q2 (p k) = Q (p k) → zAg (Q2 (p k)) (eg (zhitN g dn v (j + 1)) k) := by
      intro k hk hkj Q2 e
      rw [e]
      have o6 := hI.s6 k hk
      refine (hA k hk).eqv (by rw [eg_hit (by decide)]; split; exact o6; exact o6) (fun a ha => ?_)
      rw [eg_hit ha, eg_hit ha]
      by_cases c1 : k < j ∧ 0 < zmany (eg g k) dn v
      · rw [if_pos c1, if_pos ⟨by omega, c1.2⟩]
      · rw [if_neg c1, if_neg (fun q => c1 ⟨by omega, q.2⟩)]
    by_cases hmy : 0 < zmany (eg g j) dn v
    · have hz := ih (j + 1) (by omega)
      rw [zcnt_t (p := fun k => decide (0 < zmany (eg g k) dn v)) (decide_eq_true hmy)] at hz
      refine zs_iload (pc := 16) dC_hitAll_16 rfl ?_
      refine zs_aload_n (pc := 18) dC_hitAll_18 rfl ?_
      refine zs_get (pc := 19) dC_hitAll_19 fC_17 (by first | exact hC.1 | exact hC.2.1 | exact h0.1 | exact zu_s) (by rfl) ?_
      refine zn_icmp_ge (pc := 22) 70 dC_hitAll_22 rfl (by omega) (by omega) (fun h9 => absurd h9 (by omega)) (fun _ => ?_)
      refine zs_aload_n (pc := 25) dC_hitAll_25 rfl ?_
      refine zs_get (pc := 26) dC_hitAll_26 fC_11 (by first | exact hC.1 | exact hC.2.1 | exact h0.1 | exact zu_s) (by rfl) ?_
      refine zs_iload (pc := 29) dC_hitAll_29 rfl ?_
      refine zn_aald (pc := 31) (Or.inl rfl) dC_hitAll_31 (by first | exact hC.1 | exact hC.2.1 | exact h0.1 | exact zu_s) (by omega) (by decide) (by rfl) ?_
      refine zs_astore (pc := 32) (ls2 := [_, _, _, _, _, _]) dC_hitAll_32 (Nat.le_of_ble_eq_true rfl) rfl ?_
      refine zs_aload (pc := 34) dC_hitAll_34 rfl ?_
      refine zs_iload_n (pc := 36) dC_hitAll_36 rfl ?_
      refine zs_iload_n (pc := 37) dC_hitAll_37 rfl ?_
      refine zcV1_2 (pc := 38) (d2 := d - 1) (s_E_countWith hl (by omega) hb h0.1 h0.2 hdn hv) dC_hitAll_38 kC_125 mdE_countWith miE_countWith mvE_countWith rfl (by first | exact h0.1) rfl (Nat.le_of_ble_eq_true rfl) (by omega) (by omega) (by omega) ?_
      refine zn_if_le (pc := 41) 64 dC_hitAll_41 rfl (by omega) (fun h9 => absurd h9 (by omega)) (fun _ => ?_)
      refine zs_aload (pc := 44) dC_hitAll_44 rfl ?_
      refine zs_iconst (pc := 46) dC_hitAll_46 zi_0 ?_
      refine zs_put (pc := 47) (fs2 := [_, _, _, _, _, _, _]) dC_hitAll_47 fC_108 (by first | exact hC.1 | exact hC.2.1 | exact h0.1 | exact zu_s) (by rfl) (by rfl) (by exact Nat.le_of_ble_eq_true rfl) (by rfl) ?_
      refine zs_aload (pc := 50) dC_hitAll_50 rfl ?_
      refine zs_dup (pc := 52) dC_hitAll_52 rfl ?_
      refine zs_get (pc := 53) dC_hitAll_53 fC_128 (by first | exact hC.1 | exact hC.2.1 | exact h0.1 | exact zu_s) (by rfl) ?_
      refine zs_iconst (pc := 56) dC_hitAll_56 zi_1 ?_
      refine zn_iadd (pc := 57) dC_hitAll_57 ?_
      refine zs_putU (pc := 58) (fs2 := [_, _, _, _, _, _, _]) dC_hitAll_58 fC_128 (by rfl) (by rfl) (by exact Nat.le_of_ble_eq_true rfl) (by rfl) ?_
      refine zn_iinc (pc := 61) (ls2 := [_, _, _, _, _, _]) dC_hitAll_61 rfl (Nat.le_of_ble_eq_true rfl) rfl ?_
      refine zn_iinc (pc := 64) (ls2 := [_, _, _, _, _, _]) dC_hitAll_64 rfl (Nat.le_of_ble_eq_true rfl) rfl ?_
      refine zs_goto (pc := 67) 16 dC_hitAll_67 rfl ?_
      refine hz _ _ _ (hC.setE hpj (q := zup (zup (Q (p j)) 2 0) 3 (Q (p j) 3 + 1)) (fun i => by rw [zup_n (by omega), zup_n (by omega)])) (hfr.tr (zfr.u (by omega) (by omega))) (fun k hk => ?_)
      by_cases e : k = j
      · subst e
        rw [zQu_s]
        intro a ha
        have a6 : eg (zhitN g dn v (k + 1)) k 5 = eg g k 5 := by rw [eg_hit (by decide)]; split <;> rfl
        rw [a6] at ha
        rw [eg_hit (by omega), if_pos ⟨by omega, hmy⟩]
        by_cases a2 : a = 2
        · subst a2; rfl
        · rw [if_neg a2]
          by_cases a3 : a = 3
          · subst a3
            rw [if_pos rfl, zup_s, hAj 3 (by omega)]
          · rw [if_neg a3, zup_n a3, zup_n a2]
            exact hAj a ha
      · exact hoth k hk e _ (zQu_n (fun q9 => e (hp.2 _ _ (by omega) (by omega) q9)))
    · have hz := ih (j + 1) (by omega)
      rw [zcnt_f (p := fun k => decide (0 < zmany (eg g k) dn v)) (decide_eq_false hmy)] at hz
      refine zs_iload (pc := 16) dC_hitAll_16 rfl ?_
      refine zs_aload_n (pc := 18) dC_hitAll_18 rfl ?_
      refine zs_get (pc := 19) dC_hitAll_19 fC_17 (by first | exact hC.1 | exact hC.2.1 | exact h0.1 | exact zu_s) (by rfl) ?_
      refine zn_icmp_ge (pc := 22) 70 dC_hitAll_22 rfl (by omega) (by omega) (fun h9 => absurd h9 (by omega)) (fun _ => ?_)
      refine zs_aload_n (pc := 25) dC_hitAll_25 rfl ?_
      refine zs_get (pc := 26) dC_hitAll_26 fC_11 (by first | exact hC.1 | exact hC.2.1 | exact h0.1 | exact zu_s) (by rfl) ?_
      refine zs_iload (pc := 29) dC_hitAll_29 rfl ?_
      refine zn_aald (pc := 31) (Or.inl rfl) dC_hitAll_31 (by first | exact hC.1 | exact hC.2.1 | exact h0.1 | exact zu_s) (by omega) (by decide) (by rfl) ?_
      refine zs_astore (pc := 32) (ls2 := [_, _, _, _, _, _]) dC_hitAll_32 (Nat.le_of_ble_eq_true rfl) rfl ?_
      refine zs_aload (pc := 34) dC_hitAll_34 rfl ?_
      refine zs_iload_n (pc := 36) dC_hitAll_36 rfl ?_
      refine zs_iload_n (pc := 37) dC_hitAll_37 rfl ?_
      refine zcV1_2 (pc := 38) (d2 := d - 1) (s_E_countWith hl (by omega) hb h0.1 h0.2 hdn hv) dC_hitAll_38 kC_125 mdE_countWith miE_countWith mvE_countWith rfl (by first | exact h0.1) rfl (Nat.le_of_ble_eq_true rfl) (by omega) (by omega) (by omega) ?_
      refine zn_if_le (pc := 41) 64 dC_hitAll_41 rfl (by omega) (fun _ => ?_) (fun h9 => absurd h9 (by omega))
      refine zn_iinc (pc := 64) (ls2 := [_, _, _, _, _, _]) dC_hitAll_64 rfl (Nat.le_of_ble_eq_true rfl) rfl ?_
      refine zs_goto (pc := 67) 16 dC_hitAll_67 rfl ?_
      refine hz _ _ _ hC hfr (fun k hk => ?_)
      by_cases e : k = j
      · subst e
        refine hAj.eqv o6 (fun a ha => ?_)
        rw [eg_hit ha, if_neg (fun q => hmy q.2)]
      · exact hoth k hk e Q rfl
theorem s_C_hitAll {Γ : zG} {l : Launch} (hl : l.stackTraces = false) {d : Nat} (hd : 3 ≤ d) {h : zH} {n : Nat} {B r : Nat} {g : Nat → Nat} (hR : CR h r g) (hI : IG B g) (hB : B < 2 ^ 20) (x y : Int32) : zC Γ l d mC_hitAll [.ref r, .int x, .int y] h n 0 0 (zCq r h n 8 (zopFind g x y)) := by
  have hR9 := hR
  obtain ⟨p, Q, hC, hp, hA⟩ := hR
  refine zC_of (ls := [some (.ref r), some (.int x), some (.int y), none, none, none]) hl (by decide +kernel) rfl (Nat.le_of_ble_eq_true rfl) rfl ?_
  unfold zopFind
  cases hv : zPv x y with
  | false =>
    rw [if_neg (by decide)]
    refine zs_iload_n (pc := 0) dC_hitAll_0 rfl ?_
    refine zs_iload_n (pc := 1) dC_hitAll_1 rfl ?_
    refine zcSN1_2 (pc := 2) (d2 := d - 1) (s_X_isPrefix_n hl (by omega) (zPv_n hv)) dC_hitAll_2 knC_121 mdX_isPrefix msX_isPrefix rfl (Nat.le_of_ble_eq_true rfl) (by omega) (by omega) (by omega) ?_
    refine zs_if_ne (pc := 5) 11 dC_hitAll_5 rfl (fun h9 => absurd h9 (by decide)) (fun _ => ?_)
    refine zs_bipush (pc := 8) (v := -2) dC_hitAll_8 (by decide) ?_
    exact zs_iret (pc := 10) dC_hitAll_10 rfl rfl (by omega) (by omega) (⟨rfl, rfl, zfr.rf, hR9⟩)
  | true =>
    rw [if_pos rfl]
    have hq := zPv_y hv
    obtain ⟨q1, q2, q3, q4⟩ := hq
    have hq := zPv_y hv
    generalize x.toInt.toNat = dn at q1 q2 q3 q4 hq ⊢
    generalize y.toInt.toNat = v at q1 q2 q3 q4 hq ⊢
    subst q1
    subst q2
    have q5 := (z10 q3).2
    refine zs_iload_n (pc := 0) dC_hitAll_0 rfl ?_
    refine zs_iload_n (pc := 1) dC_hitAll_1 rfl ?_
    refine zcSN1_2 (pc := 2) (d2 := d - 1) (s_X_isPrefix_y hl (by omega) hq) dC_hitAll_2 knC_121 mdX_isPrefix msX_isPrefix rfl (Nat.le_of_ble_eq_true rfl) (by omega) (by omega) (by omega) ?_
    refine zs_if_ne (pc := 5) 11 dC_hitAll_5 rfl (fun _ => ?_) (fun h9 => absurd h9 (by decide))
    refine zs_iconst (pc := 11) dC_hitAll_11 zi_0 ?_
    refine zs_istore_n (pc := 12) (ls2 := [_, _, _, _, _, _]) dC_hitAll_12 (Nat.le_of_ble_eq_true rfl) rfl ?_
    refine zs_iconst (pc := 13) dC_hitAll_13 zi_0 ?_
    refine zs_istore (pc := 14) (ls2 := [_, _, _, _, _, _]) dC_hitAll_14 (Nat.le_of_ble_eq_true rfl) rfl ?_
    refine lp_C_hitAll hl hd hp hI hB q3 (by omega) (g 0) 0 rfl h Q none hC zfr.rf (fun k hk => (hA k hk).eqv (hI.s6 k hk) (fun a ha => ?_))
    rw [eg_hit ha, if_neg (by omega)]

