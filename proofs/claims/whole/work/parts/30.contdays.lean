/-! the contents' days -/
theorem nI_prd {i : Nat} : nI (i + 1) - nI 1 = nI i := by
  have h : nI (i + 1) = nI i + nI 1 := by
    show Int32.ofNat (i + 1) = Int32.ofNat i + Int32.ofNat 1
    rw [Int32.ofNat_add]
  rw [h, Int32.add_sub_cancel]
theorem nI_m1 {x : Int32} : x + Int32.ofInt (-1) = x - nI 1 := by rw [Int32.sub_eq_add_neg]; rfl
theorem CH.Fe {h : zH} {r : Nat} {p : Nat → Nat} {Q : Nat → Nat → Nat} {F g2 : Nat → Nat} (hC : CH h r p Q F) (e1 : F 1 = g2 0) (e2 : F 2 = g2 1) (e3 : F 3 = g2 2) (e4 : F 4 = g2 1) (e5 : F 5 = g2 3) (e6 : F 6 = g2 4) (e7 : F 7 = g2 5) : CH h r p Q (zFg g2) := by
  have e : zCo F (r + 1) = zCo (zFg g2) (r + 1) := by
    unfold zCo
    rw [e1, e2, e3, e4, e5, e6, e7]
    rfl
  exact ⟨by rw [hC.1, e], hC.2⟩
theorem zAg.bad {q : Nat → Nat} {g : Nat → Nat} {k : Nat} (h : zAg q (eg g k)) : (if zlife q < q 2 then 1 else 0) = (if zbad g k = true then 1 else 0) := by
  rw [h.life, h 2 (by omega)]
  unfold zbad
  by_cases e : zlife (eg g k) < eg g k 2
  · rw [if_pos e, if_pos (decide_eq_true e)]
  · rw [if_neg e, if_neg (by rw [decide_eq_false e]; decide)]
theorem lp_C_passDay {Γ : zG} {l : Launch} (hl : l.stackTraces = false) {d : Nat} (hd : 2 ≤ d) {h : zH} {n : Nat} {B r : Nat} (hB : B < 2 ^ 20) : ∀ i (g : Nat → Nat) (f c : Nat) (h1 : zH) (p : Nat → Nat) (Q : Nat → Nat → Nat) (x3 : Option Value), i ≤ g 0 → f + g 0 ≤ 20 → IK B c g i → PM p → CH h1 r p Q (zFg g) → zfr r 42 h h1 → (∀ k, k < i → zAg (zup (Q (p k)) 2 (Q (p k) 2 + 1)) (eg g k)) → (∀ k, i ≤ k → k < g 0 → zAg (Q (p k)) (eg g k)) → Z Γ l mC_passDay d 0 0 (zFin Γ (fun oc h2 n2 => oc = .inl (some (.int (nI (f + (g 0 - zfal g i 0))))) ∧ n2 = n ∧ zfr r 42 h h2 ∧ CR h2 r (zfal g i)) 0 0) 9 [some (.ref r), some (.int (nI f)), some (.int (nI i - nI 1)), x3] [] h1 n 0 0 := by
  intro i
  induction i with
  | zero =>
    intro g f c h1 p Q x3 hi hf hK hp hC hfr hA1 hA2
    refine zs_iload_n (pc := 9) dC_passDay_9 rfl ?_
    refine zs_if_lt (pc := 10) 51 dC_passDay_10 rfl (fun _ => ?_) (fun h9 => absurd h9 (by decide))
    refine zs_iload_n (pc := 51) dC_passDay_51 rfl ?_
    exact zs_iret (pc := 52) dC_passDay_52 rfl rfl (by omega) (by omega) (⟨by show _ = Sum.inl (some (Value.int (nI (f + (g 0 - g 0))))); rw [Nat.sub_self, Nat.add_zero], rfl, hfr, p, Q, hC, hp, fun j hj => hA2 j (Nat.zero_le _) hj⟩)
  | succ i ih =>
    intro g f c h1 p Q x3 hi hf hK hp hC hfr hA1 hA2
    have i0 := hK.1
    have hpi := hp.1 i (by omega)
    have h0 := hC.2.2 _ hpi
    have hAi := hA1 i (by omega)
    have e2 := hAi 2 (by omega)
    rw [zup_s] at e2
    have hbi := hK.b hB (j := i) (by omega)
    have hb := hAi.b hbi
    have b2 := hbi.2.2.1
    have hC2 : CH (zu h1 _ (zEo (zup (Q (p i)) 2 (Q (p i) 2 + 1)) (r + 3 + 2 * p i))) r p _ (zFg g) := hC.setE hpi (q := zup (Q (p i)) 2 (Q (p i) 2 + 1)) (fun i => zup_n (by omega))
    have hQo : ∀ k, k < 20 → k ≠ i → zQu Q (p i) (zup (Q (p i)) 2 (Q (p i) 2 + 1)) (p k) = Q (p k) := fun k hk hki => zQu_n (fun q9 => hki (hp.2 _ _ hk (by omega) q9))
    have hid0 : ∀ k, k < g 0 → zQu Q (p i) (zup (Q (p i)) 2 (Q (p i) 2 + 1)) (p k) 0 = eg g k 0 := fun k hk => by
      by_cases e : k = i
      · subst e
        rw [zQu_s]
        exact hAi 0 (by omega)
      · rw [hQo k (by omega) e]
        by_cases e5 : k < i + 1
        · exact hA1 k e5 0 (by omega)
        · exact hA2 k (by omega) hk 0 (by omega)
    have hid : ∀ k, k < zFg g 1 → zQu Q (p i) (zup (Q (p i)) 2 (Q (p i) 2 + 1)) (p k) 0 < 2 ^ 31 := fun k hk => by
      have := (hK.b hB (j := k) hk).1
      rw [hid0 k hk]
      omega
    have hne : ∀ k, k < zFg g 1 → k ≠ i → zQu Q (p i) (zup (Q (p i)) 2 (Q (p i) 2 + 1)) (p k) 0 ≠ zQu Q (p i) (zup (Q (p i)) 2 (Q (p i) 2 + 1)) (p i) 0 := fun k hk hki => by
      rw [hid0 k hk, hid0 i (by omega)]
      exact hK.ne hk (by omega) hki
    have h6 : ∀ k, k < g 0 → eg g k 5 ≤ 6 := fun k hk => (hK.b hB (j := k) hk).2.2.2.2.2.1
    rw [nI_prd]
    refine zs_iload_n (pc := 9) dC_passDay_9 rfl ?_
    refine zs_if_lt (pc := 10) 51 dC_passDay_10 rfl (fun h9 => absurd h9 (nI_pos (by omega))) (fun _ => ?_)
    refine zs_aload_n (pc := 13) dC_passDay_13 rfl ?_
    refine zs_get (pc := 14) dC_passDay_14 fC_11 (by first | exact hC.1 | exact hC.2.1 | exact h0.1 | exact zu_s) (by rfl) ?_
    refine zs_iload_n (pc := 17) dC_passDay_17 rfl ?_
    refine zn_aald (pc := 18) (Or.inl rfl) dC_passDay_18 (by first | exact hC.1 | exact hC.2.1 | exact h0.1 | exact zu_s) (by omega) (by decide) (by rfl) ?_
    refine zs_astore_n (pc := 19) (ls2 := [_, _, _, _]) dC_passDay_19 (Nat.le_of_ble_eq_true rfl) rfl ?_
    refine zs_aload_n (pc := 20) dC_passDay_20 rfl ?_
    refine zs_dup (pc := 21) dC_passDay_21 rfl ?_
    refine zs_get (pc := 22) dC_passDay_22 fC_108 (by first | exact hC.1 | exact hC.2.1 | exact h0.1 | exact zu_s) (by rfl) ?_
    refine zs_iconst (pc := 25) dC_passDay_25 zi_1 ?_
    refine zn_iadd (pc := 26) dC_passDay_26 ?_
    refine zs_put (pc := 27) (fs2 := [_, _, _, _, _, _, _]) dC_passDay_27 fC_108 (by first | exact hC.1 | exact hC.2.1 | exact h0.1 | exact zu_s) (by rfl) (by rfl) (by exact Nat.le_of_ble_eq_true rfl) (by rfl) ?_
    refine zs_aload_n (pc := 30) dC_passDay_30 rfl ?_
    cases hz : zbad g i with
    | true =>
      rw [zfal_y hz]
      refine zcV1_0 (pc := 31) (d2 := d - 1) (s_E_hasFaded hl (by omega) hb zu_s) dC_passDay_31 kC_134 mdE_hasFaded miE_hasFaded mvE_hasFaded rfl (by first | exact zu_s | exact hC2.1) rfl (Nat.le_of_ble_eq_true rfl) (by omega) (by omega) (by omega) ?_
      refine zs_if_eq (pc := 34) 45 dC_passDay_34 rfl (fun h9 => absurd h9 (by rw [hAi.bad, hz]; decide)) (fun _ => ?_)
      refine zs_aload_n (pc := 37) dC_passDay_37 rfl ?_
      refine zs_aload_n (pc := 38) dC_passDay_38 rfl ?_
      refine zcV0_1 (pc := 39) (d2 := d - 1) (s_C_discard hl hC2 hp i0 (show i < g 0 by omega) hid hne) dC_passDay_39 kC_105 mdC_discard miC_discard mvC_discard rfl (by first | exact zu_s | exact hC2.1) rfl (Nat.le_of_ble_eq_true rfl) (by omega) (by omega) (by omega) ?_
      refine zn_iinc (pc := 42) (ls2 := [_, _, _, _]) dC_passDay_42 rfl (Nat.le_of_ble_eq_true rfl) rfl ?_
      refine zs_iinc (pc := 45) (ls2 := [_, _, _, _]) dC_passDay_45 rfl rfl (Nat.le_of_ble_eq_true rfl) rfl ?_
      refine zs_goto (pc := 48) 9 dC_passDay_48 rfl ?_
      rw [nI_m1]
      have hK2 := hK.lv (k := i) (by omega)
      rw [if_pos (by omega)] at hK2
      have w0 : zlv g i 0 = g 0 - 1 := by rw [zlv_lo (by decide), if_pos rfl]
      have w1 : ∀ j, j < 6 → j ≠ 0 → zlv g i j = g j := fun j hj h0 => by rw [zlv_lo hj, if_neg h0]
      have hC3 := ((hC2.setP (zrot p i (g 0))).setF (zF1 (zFg g) 1 (g 0 - 1))).Fe (g2 := zlv g i) w0.symm (w1 1 (by decide) (by decide)).symm (w1 2 (by decide) (by decide)).symm (w1 1 (by decide) (by decide)).symm (w1 3 (by decide) (by decide)).symm (w1 4 (by decide) (by decide)).symm (w1 5 (by decide) (by decide)).symm
      have h9 := ih (zlv g i) (f + 1) (c + 1) _ (zrot p i (g 0)) _ (some (.ref (r + 2 + 2 * p i))) (by omega) (by omega) hK2 (hp.rot (by omega) i0) hC3 (hfr.tr ((zfr.u (by omega) (by omega)).tr zfr.disc)) (fun k hk => ?_) (fun k hk1 hk2 => ?_)
      · have h4 := zfal_le i (zlv g i)
        have e : f + 1 + (zlv g i 0 - zfal (zlv g i) i 0) = f + (g 0 - zfal (zlv g i) i 0) := by omega
        rw [e] at h9
        exact h9
      · have ez : zrot p i (g 0) k = p k := by unfold zrot; rw [if_neg (by omega), if_neg (by omega)]
        rw [ez, hQo k (by omega) (by omega)]
        exact (hA1 k (by omega)).eqv (h6 k (by omega)) (fun a ha => eg_lv_l (by omega) ha)
      · have ez : zrot p i (g 0) k = p (k + 1) := by unfold zrot; rw [if_pos (by omega)]
        rw [ez, hQo (k + 1) (by omega) (by omega)]
        exact (hA2 (k + 1) (by omega) (by omega)).eqv (h6 (k + 1) (by omega)) (fun a ha => eg_lv_h (by omega) (by omega) ha)
    | false =>
      rw [zfal_n hz]
      refine zcV1_0 (pc := 31) (d2 := d - 1) (s_E_hasFaded hl (by omega) hb zu_s) dC_passDay_31 kC_134 mdE_hasFaded miE_hasFaded mvE_hasFaded rfl (by first | exact zu_s | exact hC2.1) rfl (Nat.le_of_ble_eq_true rfl) (by omega) (by omega) (by omega) ?_
      refine zs_if_eq (pc := 34) 45 dC_passDay_34 rfl (fun _ => ?_) (fun h9 => absurd h9 (by rw [hAi.bad, hz]; decide))
      refine zs_iinc (pc := 45) (ls2 := [_, _, _, _]) dC_passDay_45 rfl rfl (Nat.le_of_ble_eq_true rfl) rfl ?_
      refine zs_goto (pc := 48) 9 dC_passDay_48 rfl ?_
      rw [nI_m1]
      have h5 : ¬ zlife (eg g i) < eg g i 2 := of_decide_eq_false hz
      have hK2 : IK B c g i := by
        obtain ⟨i0, i1, i2, i3, i4, i5, i5a, i6, i7, i8⟩ := hK
        refine ⟨i0, i1, i2, i3, i4, i5, fun j hj hij => ?_, i6, i7, i8⟩
        by_cases e : j = i
        · subst e; omega
        · exact i5a j hj (by omega)
      refine ih g f c _ p _ (some (.ref (r + 2 + 2 * p i))) (by omega) hf hK2 hp hC2 (hfr.tr (zfr.u (by omega) (by omega))) (fun k hk => ?_) (fun k hk1 hk2 => ?_)
      · rw [hQo k (by omega) (by omega)]
        exact hA1 k (by omega)
      · by_cases e : k = i
        · subst e
          rw [zQu_s]
          exact hAi
        · rw [hQo k (by omega) e]
          exact hA2 k (by omega) hk2
theorem s_C_passDay {Γ : zG} {l : Launch} (hl : l.stackTraces = false) {d : Nat} (hd : 2 ≤ d) {h : zH} {n : Nat} {B c r : Nat} {g : Nat → Nat} (hR : CR h r g) (hI : IK B c g 0) (hB : B < 2 ^ 20) : zC Γ l d mC_passDay [.ref r] h n 0 0 (fun oc h2 n2 => oc = .inl (some (.int (nI (g 0 - zfal (zage g) (g 0) 0)))) ∧ n2 = n ∧ zfr r 42 h h2 ∧ CR h2 r (zfal (zage g) (g 0))) := by
  obtain ⟨p, Q, hC, hp, hA⟩ := hR
  have i0 := hI.1
  have e1 : zFg g 1 = g 0 := rfl
  have e0 : zage g 0 = g 0 := zage_lo (by decide)
  have hK := hI.age
  have hC2 : CH h r p Q (zFg (zage g)) := hC.Fe (zage_lo (j := 0) (by decide)).symm (zage_lo (j := 1) (by decide)).symm (zage_lo (j := 2) (by decide)).symm (zage_lo (j := 1) (by decide)).symm (zage_lo (j := 3) (by decide)).symm (zage_lo (j := 4) (by decide)).symm (zage_lo (j := 5) (by decide)).symm
  refine zC_of (ls := [some (.ref r), none, none, none]) hl (by decide +kernel) rfl (Nat.le_of_ble_eq_true rfl) rfl ?_
  refine zs_iconst (pc := 0) dC_passDay_0 zi_0 ?_
  refine zs_istore_n (pc := 1) (ls2 := [_, _, _, _]) dC_passDay_1 (Nat.le_of_ble_eq_true rfl) rfl ?_
  refine zs_aload_n (pc := 2) dC_passDay_2 rfl ?_
  refine zs_get (pc := 3) dC_passDay_3 fC_17 (by first | exact hC.1 | exact hC.2.1 | exact h0.1 | exact zu_s) (by rfl) ?_
  refine zs_iconst (pc := 6) dC_passDay_6 zi_1 ?_
  refine zs_isub (pc := 7) dC_passDay_7 ?_
  refine zs_istore_n (pc := 8) (ls2 := [_, _, _, _]) dC_passDay_8 (Nat.le_of_ble_eq_true rfl) rfl ?_
  rw [e1]
  have h9 := lp_C_passDay (Γ := Γ) hl hd (h := h) (n := n) hB (g 0) (zage g) 0 c h p Q none (by omega) (by omega) hK hp hC2 zfr.rf (fun k hk => ?_) (fun k hk1 hk2 => ?_)
  · rw [e0, Nat.zero_add] at h9
    exact h9
  · have hk6 := (hI.2.2.2.2.2.1 k hk).2.2.2.2.2.1
    refine ((hA k hk).up (i := 2) (v := Q (p k) 2 + 1) (by decide)).eqv hk6 (fun a ha => ?_)
    rw [eg_age ha]
    by_cases e : a = 2
    · subst e
      rw [zup_s, if_pos ⟨rfl, hk⟩, hA k hk 2 (by omega)]
    · rw [zup_n e, if_neg (fun q => e q.1)]
  · omega

