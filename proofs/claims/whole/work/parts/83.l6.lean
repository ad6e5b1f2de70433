/-! the law: the steps, 4 -/
theorem sL_removedTotal {Γ : zG} {l : Launch} (hl : l.stackTraces = false) {d mc ms : Nat} (hd : 12 ≤ d) {FN : List Frame → Array Value → State → State → Prop} {x a r t n k ks i B : Nat} {h : zH} {v6 v7 v8 : Option Value} (ha : a = x + 481) (hr : r = a + 10) (ht : t = a + 11) (hB : B + 640 < 2 ^ 20) (hi : i + 4 ≤ zgL Γ) (hZ : zgL Γ < 2 ^ 31) (hk : k + 1 ≤ mc) (hks : ks + 6 ≤ ms) (hLI : zLI x a r t B h) (K : ∀ (h9 : zH) (n9 k9 ks9 B9 : Nat) (w6 w7 w8 : Option Value), k9 ≤ k + 1 → ks9 ≤ ks + 6 → B9 ≤ B + 300 → zLI x a r t B9 h9 → Z Γ l mW_law d mc ms FN 3260 [some (.ref (zgS Γ)), some (.ref x), some (.ref a), some (.ref r), some (.ref t), some (.int (nI i)), w6, w7, w8] [] h9 n9 k9 ks9) : Z Γ l mW_law d mc ms FN 2593 [some (.ref (zgS Γ)), some (.ref x), some (.ref a), some (.ref r), some (.ref t), some (.int (nI i)), v6, v7, v8] [] h n k ks := by
  obtain ⟨g, P, c, sv, er, fl, T, np, L, f0, f1, s8, s16, s17, s18, s19, s20, hX, m0, m1, hM, h3, h4, hc8, hLb, her, hfl⟩ := hLI
  have hI : IG B g := hX.2.2.1
  obtain ⟨⟨st, hst, hx, htr⟩, hXr⟩ := id hX
  refine zs_aload_n (pc := 2593) dW_law_2593 rfl ?_
  refine zcVQ_0 (pc := 2594) (d2 := d - 1) (s_X_removedTotal hl hX) dW_law_2594 kW_309 mdX_removedTotal miX_removedTotal mvX_removedTotal rfl (by first | exact z2_a | exact hx) rfl (Nat.le_of_ble_eq_true rfl) (by omega) (by omega) (by omega) (fun v h1 n1 hq => ?_) (fun E h1 n1 hq => ?_)
  rotate_left
  · exact absurd rfl hq.1.r.1
  obtain ⟨hq1, hf9, hX1⟩ := hq
  obtain ⟨-, rfl, rfl⟩ := hq1.l
  have hM1 := MS.sm hM (h1 := h1) (fun q q1 q2 => hf9 q (by omega))
  have m01 := (hf9 a (by omega)).trans m0
  have m11 := (hf9 (a + 1) (by omega)).trans m1
  have h41 := (hf9 t (by omega)).trans h4
  rw [← z2_id m01 m11]
  obtain ⟨⟨A2, m2⟩, ⟨S, mS, mS2⟩, ⟨U, m4, mP⟩, m5, m6, m7, m8, ⟨C9, m9⟩⟩ := id hM1
  have h31 := (hf9 r (by omega)).trans h3
  refine zs_aload_n (pc := 2597) dW_law_2597 rfl ?_
  refine zcV1_0 (pc := 2598) (d2 := d - 1) (s_M_removedTotal hl (by omega)) dW_law_2598 kW_312 mdM_removedTotal miM_removedTotal mvM_removedTotal rfl (by first | exact z2_a | exact hx) rfl (Nat.le_of_ble_eq_true rfl) (by omega) (by omega) (by omega) ?_
  refine zs_icmp_eq (pc := 2601) 3260 dW_law_2601 rfl (fun _ => ?_) (fun h9 => absurd h9 (fun q => q rfl))
  exact K _ _ _ _ _ _ _ _ (by omega) (by omega) (by omega) (zLI_mk ha hr ht hX1 (fun _ _ => rfl) hM1 h31 h41 hc8 hLb her hfl)
theorem sL_mergedTotal {Γ : zG} {l : Launch} (hl : l.stackTraces = false) {d mc ms : Nat} (hd : 12 ≤ d) {FN : List Frame → Array Value → State → State → Prop} {x a r t n k ks i B : Nat} {h : zH} {v6 v7 v8 : Option Value} (ha : a = x + 481) (hr : r = a + 10) (ht : t = a + 11) (hB : B + 640 < 2 ^ 20) (hi : i + 4 ≤ zgL Γ) (hZ : zgL Γ < 2 ^ 31) (hk : k + 1 ≤ mc) (hks : ks + 6 ≤ ms) (hLI : zLI x a r t B h) (K : ∀ (h9 : zH) (n9 k9 ks9 B9 : Nat) (w6 w7 w8 : Option Value), k9 ≤ k + 1 → ks9 ≤ ks + 6 → B9 ≤ B + 300 → zLI x a r t B9 h9 → Z Γ l mW_law d mc ms FN 3260 [some (.ref (zgS Γ)), some (.ref x), some (.ref a), some (.ref r), some (.ref t), some (.int (nI i)), w6, w7, w8] [] h9 n9 k9 ks9) : Z Γ l mW_law d mc ms FN 2606 [some (.ref (zgS Γ)), some (.ref x), some (.ref a), some (.ref r), some (.ref t), some (.int (nI i)), v6, v7, v8] [] h n k ks := by
  obtain ⟨g, P, c, sv, er, fl, T, np, L, f0, f1, s8, s16, s17, s18, s19, s20, hX, m0, m1, hM, h3, h4, hc8, hLb, her, hfl⟩ := hLI
  have hI : IG B g := hX.2.2.1
  obtain ⟨⟨st, hst, hx, htr⟩, hXr⟩ := id hX
  refine zs_aload_n (pc := 2606) dW_law_2606 rfl ?_
  refine zcVQ_0 (pc := 2607) (d2 := d - 1) (s_X_mergedTotal hl hX) dW_law_2607 kW_313 mdX_mergedTotal miX_mergedTotal mvX_mergedTotal rfl (by first | exact z2_a | exact hx) rfl (Nat.le_of_ble_eq_true rfl) (by omega) (by omega) (by omega) (fun v h1 n1 hq => ?_) (fun E h1 n1 hq => ?_)
  rotate_left
  · exact absurd rfl hq.1.r.1
  obtain ⟨hq1, hf9, hX1⟩ := hq
  obtain ⟨-, rfl, rfl⟩ := hq1.l
  have hM1 := MS.sm hM (h1 := h1) (fun q q1 q2 => hf9 q (by omega))
  have m01 := (hf9 a (by omega)).trans m0
  have m11 := (hf9 (a + 1) (by omega)).trans m1
  have h41 := (hf9 t (by omega)).trans h4
  rw [← z2_id m01 m11]
  obtain ⟨⟨A2, m2⟩, ⟨S, mS, mS2⟩, ⟨U, m4, mP⟩, m5, m6, m7, m8, ⟨C9, m9⟩⟩ := id hM1
  have h31 := (hf9 r (by omega)).trans h3
  refine zs_aload_n (pc := 2610) dW_law_2610 rfl ?_
  refine zcV1_0 (pc := 2611) (d2 := d - 1) (s_M_mergedTotal hl (by omega)) dW_law_2611 kW_316 mdM_mergedTotal miM_mergedTotal mvM_mergedTotal rfl (by first | exact z2_a | exact hx) rfl (Nat.le_of_ble_eq_true rfl) (by omega) (by omega) (by omega) ?_
  refine zs_icmp_eq (pc := 2614) 3260 dW_law_2614 rfl (fun _ => ?_) (fun h9 => absurd h9 (fun q => q rfl))
  exact K _ _ _ _ _ _ _ _ (by omega) (by omega) (by omega) (zLI_mk ha hr ht hX1 (fun _ _ => rfl) hM1 h31 h41 hc8 hLb her hfl)
theorem sL_fadedTotal {Γ : zG} {l : Launch} (hl : l.stackTraces = false) {d mc ms : Nat} (hd : 12 ≤ d) {FN : List Frame → Array Value → State → State → Prop} {x a r t n k ks i B : Nat} {h : zH} {v6 v7 v8 : Option Value} (ha : a = x + 481) (hr : r = a + 10) (ht : t = a + 11) (hB : B + 640 < 2 ^ 20) (hi : i + 4 ≤ zgL Γ) (hZ : zgL Γ < 2 ^ 31) (hk : k + 1 ≤ mc) (hks : ks + 6 ≤ ms) (hLI : zLI x a r t B h) (K : ∀ (h9 : zH) (n9 k9 ks9 B9 : Nat) (w6 w7 w8 : Option Value), k9 ≤ k + 1 → ks9 ≤ ks + 6 → B9 ≤ B + 300 → zLI x a r t B9 h9 → Z Γ l mW_law d mc ms FN 3260 [some (.ref (zgS Γ)), some (.ref x), some (.ref a), some (.ref r), some (.ref t), some (.int (nI i)), w6, w7, w8] [] h9 n9 k9 ks9) : Z Γ l mW_law d mc ms FN 2619 [some (.ref (zgS Γ)), some (.ref x), some (.ref a), some (.ref r), some (.ref t), some (.int (nI i)), v6, v7, v8] [] h n k ks := by
  obtain ⟨g, P, c, sv, er, fl, T, np, L, f0, f1, s8, s16, s17, s18, s19, s20, hX, m0, m1, hM, h3, h4, hc8, hLb, her, hfl⟩ := hLI
  have hI : IG B g := hX.2.2.1
  obtain ⟨⟨st, hst, hx, htr⟩, hXr⟩ := id hX
  refine zs_aload_n (pc := 2619) dW_law_2619 rfl ?_
  refine zcVQ_0 (pc := 2620) (d2 := d - 1) (s_X_fadedTotal hl hX) dW_law_2620 kW_317 mdX_fadedTotal miX_fadedTotal mvX_fadedTotal rfl (by first | exact z2_a | exact hx) rfl (Nat.le_of_ble_eq_true rfl) (by omega) (by omega) (by omega) (fun v h1 n1 hq => ?_) (fun E h1 n1 hq => ?_)
  rotate_left
  · exact absurd rfl hq.1.r.1
  obtain ⟨hq1, hf9, hX1⟩ := hq
  obtain ⟨-, rfl, rfl⟩ := hq1.l
  have hM1 := MS.sm hM (h1 := h1) (fun q q1 q2 => hf9 q (by omega))
  have m01 := (hf9 a (by omega)).trans m0
  have m11 := (hf9 (a + 1) (by omega)).trans m1
  have h41 := (hf9 t (by omega)).trans h4
  rw [← z2_id m01 m11]
  obtain ⟨⟨A2, m2⟩, ⟨S, mS, mS2⟩, ⟨U, m4, mP⟩, m5, m6, m7, m8, ⟨C9, m9⟩⟩ := id hM1
  have h31 := (hf9 r (by omega)).trans h3
  refine zs_aload_n (pc := 2623) dW_law_2623 rfl ?_
  refine zcV1_0 (pc := 2624) (d2 := d - 1) (s_M_fadedTotal hl (by omega)) dW_law_2624 kW_320 mdM_fadedTotal miM_fadedTotal mvM_fadedTotal rfl (by first | exact z2_a | exact hx) rfl (Nat.le_of_ble_eq_true rfl) (by omega) (by omega) (by omega) ?_
  refine zs_icmp_eq (pc := 2627) 3260 dW_law_2627 rfl (fun _ => ?_) (fun h9 => absurd h9 (fun q => q rfl))
  exact K _ _ _ _ _ _ _ _ (by omega) (by omega) (by omega) (zLI_mk ha hr ht hX1 (fun _ _ => rfl) hM1 h31 h41 hc8 hLb her hfl)
theorem sL_meanCodes {Γ : zG} {l : Launch} (hl : l.stackTraces = false) {d mc ms : Nat} (hd : 12 ≤ d) {FN : List Frame → Array Value → State → State → Prop} {x a r t n k ks i B : Nat} {h : zH} {v6 v7 v8 : Option Value} (ha : a = x + 481) (hr : r = a + 10) (ht : t = a + 11) (hB : B + 640 < 2 ^ 20) (hi : i + 4 ≤ zgL Γ) (hZ : zgL Γ < 2 ^ 31) (hk : k + 1 ≤ mc) (hks : ks + 6 ≤ ms) (hLI : zLI x a r t B h) (K : ∀ (h9 : zH) (n9 k9 ks9 B9 : Nat) (w6 w7 w8 : Option Value), k9 ≤ k + 1 → ks9 ≤ ks + 6 → B9 ≤ B + 300 → zLI x a r t B9 h9 → Z Γ l mW_law d mc ms FN 3260 [some (.ref (zgS Γ)), some (.ref x), some (.ref a), some (.ref r), some (.ref t), some (.int (nI i)), w6, w7, w8] [] h9 n9 k9 ks9) : Z Γ l mW_law d mc ms FN 2632 [some (.ref (zgS Γ)), some (.ref x), some (.ref a), some (.ref r), some (.ref t), some (.int (nI i)), v6, v7, v8] [] h n k ks := by
  obtain ⟨g, P, c, sv, er, fl, T, np, L, f0, f1, s8, s16, s17, s18, s19, s20, hX, m0, m1, hM, h3, h4, hc8, hLb, her, hfl⟩ := hLI
  have hI : IG B g := hX.2.2.1
  obtain ⟨⟨st, hst, hx, htr⟩, hXr⟩ := id hX
  refine zs_aload_n (pc := 2632) dW_law_2632 rfl ?_
  refine zs_aload (pc := 2633) dW_law_2633 rfl ?_
  refine zcX_2 (pc := 2635) (d2 := d - 1) (s_W_meanCodes hl (by omega) hX (by omega)  (by omega) h4) dW_law_2635 kW_321 mdW_meanCodes msW_meanCodes (by decide) (Nat.le_of_ble_eq_true rfl) (by omega) (by omega) (by omega) (fun v h1 n1 hq => ?_) (fun E h1 n1 hq => absurd hq.1 (by intro q; cases q))
  obtain ⟨hv9, hn9, hf9, hX1, f2, h31, hv0⟩ := hq
  obtain rfl := Sum.inl.inj hv9
  have hM1 := MS.sm hM (h1 := h1) (fun q q1 q2 => hf9 q (by omega) (by omega))
  have m01 := (hf9 a (by omega) (by omega)).trans m0
  have m11 := (hf9 (a + 1) (by omega) (by omega)).trans m1
  have h40 := h31
  have h30 := (hf9 r (by omega) (by omega)).trans h3
  rw [← z2_id m01 m11]
  obtain ⟨⟨A2, m2⟩, ⟨S, mS, mS2⟩, ⟨U, m4, mP⟩, m5, m6, m7, m8, ⟨C9, m9⟩⟩ := id hM1
  have hlt : (aMean g).1 < 2 := by
      unfold aMean
      (repeat' split) <;> exact Nat.le_of_ble_eq_true rfl
  refine zs_istore (pc := 2638) (ls2 := [_, _, _, _, _, _, _, _, _]) dW_law_2638 (Nat.le_of_ble_eq_true rfl) rfl ?_
  refine zs_aload_n (pc := 2640) dW_law_2640 rfl ?_
  refine zcV1_0 (pc := 2641) (d2 := d - 1) (s_M_meanCodes hl (by omega) hI) dW_law_2641 kW_324 mdM_meanCodes miM_meanCodes mvM_meanCodes rfl (by first | exact z2_a | exact hx) rfl (Nat.le_of_ble_eq_true rfl) (by omega) (by omega) (by omega) ?_
  refine zs_dstore (pc := 2644) (ls2 := [_, _, _, _, _, _, _, _, _]) dW_law_2644 (Nat.le_of_ble_eq_true rfl) rfl ?_
  refine zs_aload_n (pc := 2646) dW_law_2646 rfl ?_
  refine zcV1_0 (pc := 2647) (d2 := d - 1) (s_M_thrown hl) dW_law_2647 kW_183 mdM_thrown miM_thrown mvM_thrown rfl (by first | exact z2_a | exact hx) rfl (Nat.le_of_ble_eq_true rfl) (by omega) (by omega) (by omega) ?_
  refine zs_iload (pc := 2650) dW_law_2650 rfl ?_
  refine zs_icmp_eq (pc := 2652) 2657 dW_law_2652 rfl (fun _ => ?_) (fun h9 => absurd h9 (fun q => q rfl))
  refine zs_iload (pc := 2657) dW_law_2657 rfl ?_
  refine zs_if_ne (pc := 2659) 2694 dW_law_2659 rfl (fun hb9 => ?_) (fun hb9 => ?_)
  · refine zs_goto (pc := 2694) 3260 dW_law_2694 rfl ?_
    exact K _ _ _ _ _ _ _ _ (by omega) (by omega) (by omega) (zLI_mk ha hr ht hX1 (fun _ _ => rfl) hM1 h30 h40 hc8 hLb her hfl)
  · have e0 : (aMean g).1 = 0 := Decidable.byContradiction fun q => nI_ne (by omega) (by decide) q hb9
    have z0 : (nI 0).toNatClampNeg = 0 := by decide
    have e9 : ¬ g 0 = 0 := fun q => by
      unfold aMean at e0
      rw [if_pos q] at e0
      cases e0
    have eM : mMean g = yMean g := if_neg e9
    have hne : nI (g 0) ≠ 0 := nI_ne (by have := hI.1; omega) (by decide) e9
    have hN : FP.Core.dIsNaN (mMean g) = false := by rw [eM]; exact ydd_n hne
    have ec : Op.cmpValue (FP.dcmp (f2 (nI 0).toNatClampNeg) (mMean g)) .l = 0 := by rw [z0, hv0 e0, ycmp_d hN]; rfl
    refine zs_aload (pc := 2662) dW_law_2662 rfl ?_
    refine zs_iconst (pc := 2664) dW_law_2664 zi_0 ?_
    refine zs_dald (pc := 2665) dW_law_2665 (by (rw [z2_n (by omega) (by omega)]; exact h31)) (vp_in_nI (by decide) (by decide)) ?_
    refine zs_dload (pc := 2666) dW_law_2666 rfl ?_
    refine zs_dcmp (pc := 2668) dW_law_2668 ?_
    refine zs_if_eq (pc := 2669) 2694 dW_law_2669 rfl (fun _ => ?_) (fun h9 => absurd h9 (fun q => q ec))
    refine zs_goto (pc := 2694) 3260 dW_law_2694 rfl ?_
    exact K _ _ _ _ _ _ _ _ (by omega) (by omega) (by omega) (zLI_mk ha hr ht hX1 (fun _ _ => rfl) hM1 h30 h40 hc8 hLb her hfl)
theorem sL_fadedShare {Γ : zG} {l : Launch} (hl : l.stackTraces = false) {d mc ms : Nat} (hd : 12 ≤ d) {FN : List Frame → Array Value → State → State → Prop} {x a r t n k ks i B : Nat} {h : zH} {v6 v7 v8 : Option Value} (ha : a = x + 481) (hr : r = a + 10) (ht : t = a + 11) (hB : B + 640 < 2 ^ 20) (hi : i + 4 ≤ zgL Γ) (hZ : zgL Γ < 2 ^ 31) (hk : k + 1 ≤ mc) (hks : ks + 6 ≤ ms) (hLI : zLI x a r t B h) (K : ∀ (h9 : zH) (n9 k9 ks9 B9 : Nat) (w6 w7 w8 : Option Value), k9 ≤ k + 1 → ks9 ≤ ks + 6 → B9 ≤ B + 300 → zLI x a r t B9 h9 → Z Γ l mW_law d mc ms FN 3260 [some (.ref (zgS Γ)), some (.ref x), some (.ref a), some (.ref r), some (.ref t), some (.int (nI i)), w6, w7, w8] [] h9 n9 k9 ks9) : Z Γ l mW_law d mc ms FN 2697 [some (.ref (zgS Γ)), some (.ref x), some (.ref a), some (.ref r), some (.ref t), some (.int (nI i)), v6, v7, v8] [] h n k ks := by
  obtain ⟨g, P, c, sv, er, fl, T, np, L, f0, f1, s8, s16, s17, s18, s19, s20, hX, m0, m1, hM, h3, h4, hc8, hLb, her, hfl⟩ := hLI
  have hI : IG B g := hX.2.2.1
  obtain ⟨⟨st, hst, hx, htr⟩, hXr⟩ := id hX
  refine zs_aload_n (pc := 2697) dW_law_2697 rfl ?_
  refine zs_aload (pc := 2698) dW_law_2698 rfl ?_
  refine zcX_2 (pc := 2700) (d2 := d - 1) (s_W_fadedShare hl (by omega) hX (by omega)  (by omega) h4) dW_law_2700 kW_325 mdW_fadedShare msW_fadedShare (by decide) (Nat.le_of_ble_eq_true rfl) (by omega) (by omega) (by omega) (fun v h1 n1 hq => ?_) (fun E h1 n1 hq => absurd hq.1 (by intro q; cases q))
  obtain ⟨hv9, hn9, hf9, hX1, f2, h31, hv0⟩ := hq
  obtain rfl := Sum.inl.inj hv9
  have hM1 := MS.sm hM (h1 := h1) (fun q q1 q2 => hf9 q (by omega) (by omega))
  have m01 := (hf9 a (by omega) (by omega)).trans m0
  have m11 := (hf9 (a + 1) (by omega) (by omega)).trans m1
  have h40 := h31
  have h30 := (hf9 r (by omega) (by omega)).trans h3
  rw [← z2_id m01 m11]
  obtain ⟨⟨A2, m2⟩, ⟨S, mS, mS2⟩, ⟨U, m4, mP⟩, m5, m6, m7, m8, ⟨C9, m9⟩⟩ := id hM1
  have hlt : (aShr g).1 < 2 := by
      unfold aShr
      (repeat' split) <;> exact Nat.le_of_ble_eq_true rfl
  refine zs_istore (pc := 2703) (ls2 := [_, _, _, _, _, _, _, _, _]) dW_law_2703 (Nat.le_of_ble_eq_true rfl) rfl ?_
  refine zs_aload_n (pc := 2705) dW_law_2705 rfl ?_
  refine zcV1_0 (pc := 2706) (d2 := d - 1) (s_M_fadedShare hl (by omega) hI (by omega)) dW_law_2706 kW_327 mdM_fadedShare miM_fadedShare mvM_fadedShare rfl (by first | exact z2_a | exact hx) rfl (Nat.le_of_ble_eq_true rfl) (by omega) (by omega) (by omega) ?_
  refine zs_fstore (pc := 2709) (ls2 := [_, _, _, _, _, _, _, _, _]) dW_law_2709 (Nat.le_of_ble_eq_true rfl) rfl ?_
  refine zs_aload_n (pc := 2711) dW_law_2711 rfl ?_
  refine zcV1_0 (pc := 2712) (d2 := d - 1) (s_M_thrown hl) dW_law_2712 kW_183 mdM_thrown miM_thrown mvM_thrown rfl (by first | exact z2_a | exact hx) rfl (Nat.le_of_ble_eq_true rfl) (by omega) (by omega) (by omega) ?_
  refine zs_iload (pc := 2715) dW_law_2715 rfl ?_
  refine zs_icmp_eq (pc := 2717) 2722 dW_law_2717 rfl (fun _ => ?_) (fun h9 => absurd h9 (fun q => q rfl))
  refine zs_iload (pc := 2722) dW_law_2722 rfl ?_
  refine zs_if_ne (pc := 2724) 2760 dW_law_2724 rfl (fun hb9 => ?_) (fun hb9 => ?_)
  · refine zs_goto (pc := 2760) 3260 dW_law_2760 rfl ?_
    exact K _ _ _ _ _ _ _ _ (by omega) (by omega) (by omega) (zLI_mk ha hr ht hX1 (fun _ _ => rfl) hM1 h30 h40 hc8 hLb her hfl)
  · have e0 : (aShr g).1 = 0 := Decidable.byContradiction fun q => nI_ne (by omega) (by decide) q hb9
    have z0 : (nI 0).toNatClampNeg = 0 := by decide
    have e9 : ¬ g 1 = 0 := fun q => by
      unfold aShr at e0
      rw [if_pos q] at e0
      cases e0
    have eM : mShr g = yShr g := if_neg e9
    have hne : nI (g 1) ≠ 0 := nI_ne (by have := hI.2.1; omega) (by decide) e9
    have hN : FP.Core.dIsNaN (FP.f2d (mShr g)) = false := by rw [eM]; exact yff_n (yfd_n hne)
    have ec : Op.cmpValue (FP.dcmp (f2 (nI 0).toNatClampNeg) (FP.f2d (mShr g))) .l = 0 := by rw [z0, hv0 e0, ycmp_d hN]; rfl
    refine zs_aload (pc := 2727) dW_law_2727 rfl ?_
    refine zs_iconst (pc := 2729) dW_law_2729 zi_0 ?_
    refine zs_dald (pc := 2730) dW_law_2730 (by (rw [z2_n (by omega) (by omega)]; exact h31)) (vp_in_nI (by decide) (by decide)) ?_
    refine zs_fload (pc := 2731) dW_law_2731 rfl ?_
    refine zs_f2d (pc := 2733) dW_law_2733 (ynn64 hN) ?_
    refine zs_dcmp (pc := 2734) dW_law_2734 ?_
    refine zs_if_eq (pc := 2735) 2760 dW_law_2735 rfl (fun _ => ?_) (fun h9 => absurd h9 (fun q => q ec))
    refine zs_goto (pc := 2760) 3260 dW_law_2760 rfl ?_
    exact K _ _ _ _ _ _ _ _ (by omega) (by omega) (by omega) (zLI_mk ha hr ht hX1 (fun _ _ => rfl) hM1 h30 h40 hc8 hLb her hfl)
theorem sL_isConsistent {Γ : zG} {l : Launch} (hl : l.stackTraces = false) {d mc ms : Nat} (hd : 12 ≤ d) {FN : List Frame → Array Value → State → State → Prop} {x a r t n k ks i B : Nat} {h : zH} {v6 v7 v8 : Option Value} (ha : a = x + 481) (hr : r = a + 10) (ht : t = a + 11) (hB : B + 640 < 2 ^ 20) (hi : i + 4 ≤ zgL Γ) (hZ : zgL Γ < 2 ^ 31) (hk : k + 1 ≤ mc) (hks : ks + 6 ≤ ms) (hLI : zLI x a r t B h) (K : ∀ (h9 : zH) (n9 k9 ks9 B9 : Nat) (w6 w7 w8 : Option Value), k9 ≤ k + 1 → ks9 ≤ ks + 6 → B9 ≤ B + 300 → zLI x a r t B9 h9 → Z Γ l mW_law d mc ms FN 3260 [some (.ref (zgS Γ)), some (.ref x), some (.ref a), some (.ref r), some (.ref t), some (.int (nI i)), w6, w7, w8] [] h9 n9 k9 ks9) : Z Γ l mW_law d mc ms FN 2763 [some (.ref (zgS Γ)), some (.ref x), some (.ref a), some (.ref r), some (.ref t), some (.int (nI i)), v6, v7, v8] [] h n k ks := by
  obtain ⟨g, P, c, sv, er, fl, T, np, L, f0, f1, s8, s16, s17, s18, s19, s20, hX, m0, m1, hM, h3, h4, hc8, hLb, her, hfl⟩ := hLI
  have hI : IG B g := hX.2.2.1
  obtain ⟨⟨st, hst, hx, htr⟩, hXr⟩ := id hX
  refine zs_aload_n (pc := 2763) dW_law_2763 rfl ?_
  refine zcVQ_0 (pc := 2764) (d2 := d - 1) (y_X_isConsistent hl (by omega) hX (by omega)) dW_law_2764 kW_328 mdX_isConsistent miX_isConsistent mvX_isConsistent rfl (by first | exact z2_a | exact hx) rfl (Nat.le_of_ble_eq_true rfl) (by omega) (by omega) (by omega) (fun v h1 n1 hq => ?_) (fun E h1 n1 hq => absurd hq.1 (by intro q; cases q))
  obtain ⟨hv9, rfl, hf8, hX1⟩ := hq
  obtain rfl := Sum.inl.inj hv9
  have hf9 : ∀ q, (q < x ∨ x + 481 ≤ q) → h1 q = h q := fun q q1 => hf8 q (by omega)
  have hM1 := MS.sm hM (h1 := h1) (fun q q1 q2 => hf9 q (by omega))
  have m01 := (hf9 a (by omega)).trans m0
  have m11 := (hf9 (a + 1) (by omega)).trans m1
  have h41 := (hf9 t (by omega)).trans h4
  rw [← z2_id m01 m11]
  obtain ⟨⟨A2, m2⟩, ⟨S, mS, mS2⟩, ⟨U, m4, mP⟩, m5, m6, m7, m8, ⟨C9, m9⟩⟩ := id hM1
  have h31 := (hf9 r (by omega)).trans h3
  refine zs_aload_n (pc := 2767) dW_law_2767 rfl ?_
  refine zcV1_0 (pc := 2768) (d2 := d - 1) (s_M_isConsistent hl) dW_law_2768 kW_332 mdM_isConsistent miM_isConsistent mvM_isConsistent rfl (by first | exact z2_a | exact hx) rfl (Nat.le_of_ble_eq_true rfl) (by omega) (by omega) (by omega) ?_
  refine zs_icmp_eq (pc := 2771) 3260 dW_law_2771 rfl (fun _ => ?_) (fun h9 => absurd h9 (fun q => q rfl))
  exact K _ _ _ _ _ _ _ _ (by omega) (by omega) (by omega) (zLI_mk ha hr ht hX1 (fun _ _ => rfl) hM1 h31 h41 hc8 hLb her hfl)
theorem sL_formatEntry {Γ : zG} {l : Launch} (hl : l.stackTraces = false) {d mc ms : Nat} (hd : 12 ≤ d) {FN : List Frame → Array Value → State → State → Prop} {x a r t n k ks i B : Nat} {h : zH} {v6 v7 v8 : Option Value} (ha : a = x + 481) (hr : r = a + 10) (ht : t = a + 11) (hB : B + 640 < 2 ^ 20) (hi : i + 4 ≤ zgL Γ) (hZ : zgL Γ < 2 ^ 31) (hk : k + 1 ≤ mc) (hks : ks + 6 ≤ ms) (hLI : zLI x a r t B h) (K : ∀ (h9 : zH) (n9 k9 ks9 B9 : Nat) (w6 w7 w8 : Option Value), k9 ≤ k + 1 → ks9 ≤ ks + 6 → B9 ≤ B + 300 → zLI x a r t B9 h9 → Z Γ l mW_law d mc ms FN 3260 [some (.ref (zgS Γ)), some (.ref x), some (.ref a), some (.ref r), some (.ref t), some (.int (nI i)), w6, w7, w8] [] h9 n9 k9 ks9) : Z Γ l mW_law d mc ms FN 2776 [some (.ref (zgS Γ)), some (.ref x), some (.ref a), some (.ref r), some (.ref t), some (.int (nI i)), v6, v7, v8] [] h n k ks := by
  obtain ⟨g, P, c, sv, er, fl, T, np, L, f0, f1, s8, s16, s17, s18, s19, s20, hX, m0, m1, hM, h3, h4, hc8, hLb, her, hfl⟩ := hLI
  have hI : IG B g := hX.2.2.1
  obtain ⟨⟨st, hst, hx, htr⟩, hXr⟩ := id hX
  refine zs_aload_n (pc := 2776) dW_law_2776 rfl ?_
  refine zs_aload_n (pc := 2777) dW_law_2777 rfl ?_
  refine zs_iload (pc := 2778) dW_law_2778 rfl ?_
  refine zs_iconst (pc := 2780) dW_law_2780 zi_1 ?_
  refine zn_iadd (pc := 2781) dW_law_2781 ?_
  refine zs_sld (pc := 2782) dW_law_2782 (vp_in_nI (by omega) (by omega)) ?_
  refine zs_aload_n (pc := 2783) dW_law_2783 rfl ?_
  refine zcX_3 (pc := 2784) (d2 := d - 1) (s_W_formatEntry hl (by omega) hX (by omega) _ (by omega) h3) dW_law_2784 kW_333 mdW_formatEntry msW_formatEntry (by decide) (Nat.le_of_ble_eq_true rfl) (by omega) (by omega) (by omega) (fun v h1 n1 hq => ?_) (fun E h1 n1 hq => absurd hq.1 (by intro q; cases q))
  obtain ⟨hv9, hn9, hf9, hX1, f2, h31, hv0⟩ := hq
  obtain rfl := Sum.inl.inj hv9
  have hM1 := MS.sm hM (h1 := h1) (fun q q1 q2 => hf9 q (by omega) (by omega))
  have m01 := (hf9 a (by omega) (by omega)).trans m0
  have m11 := (hf9 (a + 1) (by omega) (by omega)).trans m1
  have h41 := (hf9 t (by omega) (by omega)).trans h4
  rw [← z2_id m01 m11]
  obtain ⟨⟨A2, m2⟩, ⟨S, mS, mS2⟩, ⟨U, m4, mP⟩, m5, m6, m7, m8, ⟨C9, m9⟩⟩ := id hM1
  have hlt : (aFmtE g (zgX Γ (nI (i + 1)).toNatClampNeg)).1 < 2 := by
      unfold aFmtE
      (repeat' split) <;> exact Nat.le_of_ble_eq_true rfl
  refine zs_istore (pc := 2787) (ls2 := [_, _, _, _, _, _, _, _, _]) dW_law_2787 (Nat.le_of_ble_eq_true rfl) rfl ?_
  refine zs_aload_n (pc := 2789) dW_law_2789 rfl ?_
  refine zs_aload_n (pc := 2790) dW_law_2790 rfl ?_
  refine zs_iload (pc := 2791) dW_law_2791 rfl ?_
  refine zs_iconst (pc := 2793) dW_law_2793 zi_1 ?_
  refine zn_iadd (pc := 2794) dW_law_2794 ?_
  refine zs_sld (pc := 2795) dW_law_2795 (vp_in_nI (by omega) (by omega)) ?_
  refine zcVQ_1 (pc := 2796) (d2 := d - 1) (s_M_formatEntry (s12 := nI 0) hl (by omega) m6 hI (by omega) _) dW_law_2796 kW_335 mdM_formatEntry miM_formatEntry mvM_formatEntry rfl (by first | exact z2_a | exact hx) rfl (Nat.le_of_ble_eq_true rfl) (by omega) (by omega) (by omega) (fun v h1 n1 hq => ?_) (fun E h1 n1 hq => absurd hq.1 (by intro q; cases q))
  obtain ⟨hv8, rfl, hb, rfl, m6b, hbq⟩ := hq
  obtain rfl := Sum.inl.inj hv8
  refine zs_istore (pc := 2799) (ls2 := [_, _, _, _, _, _, _, _, _]) dW_law_2799 (Nat.le_of_ble_eq_true rfl) rfl ?_
  refine zs_aload_n (pc := 2801) dW_law_2801 rfl ?_
  refine zcV1_0 (pc := 2802) (d2 := d - 1) (s_M_thrown hl) dW_law_2802 kW_183 mdM_thrown miM_thrown mvM_thrown rfl (by first | exact z2_a | exact hx) rfl (Nat.le_of_ble_eq_true rfl) (by omega) (by omega) (by omega) ?_
  refine zs_iload (pc := 2805) dW_law_2805 rfl ?_
  refine zs_icmp_eq (pc := 2807) 2812 dW_law_2807 rfl (fun _ => ?_) (fun h9 => absurd h9 (fun q => q rfl))
  refine zs_iload (pc := 2812) dW_law_2812 rfl ?_
  refine zs_if_ne (pc := 2814) 2829 dW_law_2814 rfl (fun hb9 => ?_) (fun hb9 => ?_)
  · refine zs_goto (pc := 2829) 3260 dW_law_2829 rfl ?_
    exact K _ _ _ _ _ _ _ _ (by omega) (by omega) (by omega) (zLI_mk ha hr ht hX1 (fun q hq => hbq q (by omega)) ⟨⟨A2, (hbq _ (by omega)).trans m2⟩, ⟨S, (hbq _ (by omega)).trans mS, mS2⟩, ⟨U, (hbq _ (by omega)).trans m4, mP⟩, (hbq _ (by omega)).trans m5, m6b, (hbq _ (by omega)).trans m7, (hbq _ (by omega)).trans m8, ⟨C9, (hbq _ (by omega)).trans m9⟩⟩ h31 h41 hc8 (zLe_b hI (by omega) hLb) her hfl)
  · have e0 : (aFmtE g (zgX Γ (nI (i + 1)).toNatClampNeg)).1 = 0 := Decidable.byContradiction fun q => nI_ne (by omega) (by decide) q hb9
    have z0 : (nI 0).toNatClampNeg = 0 := by decide
    have em : (aFmtE g (zgX Γ (nI (i + 1)).toNatClampNeg)).2 = (aFmtE g (zgX Γ (nI (i + 1)).toNatClampNeg)).2 := rfl
    have ec : lg_cmp (f2 (nI 0).toNatClampNeg) (aFmtE g (zgX Γ (nI (i + 1)).toNatClampNeg)).2.toInt64 = 0 := by rw [z0, hv0 e0, em]; exact lg_same
    refine zs_aload_n (pc := 2817) dW_law_2817 rfl ?_
    refine zs_iconst (pc := 2818) dW_law_2818 zi_0 ?_
    refine zs_lald (pc := 2819) dW_law_2819 (by (rw [z2_n (by omega) (by omega), hbq _ (by omega)]; exact h31)) (vp_in_nI (by decide) (by decide)) ?_
    refine zs_iload (pc := 2820) dW_law_2820 rfl ?_
    refine zs_i2l (pc := 2822) dW_law_2822 ?_
    refine zs_lcmp (pc := 2823) dW_law_2823 ?_
    refine zs_if_eq (pc := 2824) 2829 dW_law_2824 rfl (fun _ => ?_) (fun h9 => absurd h9 (fun q => q ec))
    refine zs_goto (pc := 2829) 3260 dW_law_2829 rfl ?_
    exact K _ _ _ _ _ _ _ _ (by omega) (by omega) (by omega) (zLI_mk ha hr ht hX1 (fun q hq => hbq q (by omega)) ⟨⟨A2, (hbq _ (by omega)).trans m2⟩, ⟨S, (hbq _ (by omega)).trans mS, mS2⟩, ⟨U, (hbq _ (by omega)).trans m4, mP⟩, (hbq _ (by omega)).trans m5, m6b, (hbq _ (by omega)).trans m7, (hbq _ (by omega)).trans m8, ⟨C9, (hbq _ (by omega)).trans m9⟩⟩ h31 h41 hc8 (zLe_b hI (by omega) hLb) her hfl)
theorem sL_formatResults {Γ : zG} {l : Launch} (hl : l.stackTraces = false) {d mc ms : Nat} (hd : 12 ≤ d) {FN : List Frame → Array Value → State → State → Prop} {x a r t n k ks i B : Nat} {h : zH} {v6 v7 v8 : Option Value} (ha : a = x + 481) (hr : r = a + 10) (ht : t = a + 11) (hB : B + 640 < 2 ^ 20) (hi : i + 4 ≤ zgL Γ) (hZ : zgL Γ < 2 ^ 31) (hk : k + 1 ≤ mc) (hks : ks + 6 ≤ ms) (hLI : zLI x a r t B h) (K : ∀ (h9 : zH) (n9 k9 ks9 B9 : Nat) (w6 w7 w8 : Option Value), k9 ≤ k + 1 → ks9 ≤ ks + 6 → B9 ≤ B + 300 → zLI x a r t B9 h9 → Z Γ l mW_law d mc ms FN 3260 [some (.ref (zgS Γ)), some (.ref x), some (.ref a), some (.ref r), some (.ref t), some (.int (nI i)), w6, w7, w8] [] h9 n9 k9 ks9) : Z Γ l mW_law d mc ms FN 2832 [some (.ref (zgS Γ)), some (.ref x), some (.ref a), some (.ref r), some (.ref t), some (.int (nI i)), v6, v7, v8] [] h n k ks := by
  obtain ⟨g, P, c, sv, er, fl, T, np, L, f0, f1, s8, s16, s17, s18, s19, s20, hX, m0, m1, hM, h3, h4, hc8, hLb, her, hfl⟩ := hLI
  have hI : IG B g := hX.2.2.1
  obtain ⟨⟨st, hst, hx, htr⟩, hXr⟩ := id hX
  refine zs_aload_n (pc := 2832) dW_law_2832 rfl ?_
  refine zs_aload_n (pc := 2833) dW_law_2833 rfl ?_
  refine zs_iload (pc := 2834) dW_law_2834 rfl ?_
  refine zs_iconst (pc := 2836) dW_law_2836 zi_1 ?_
  refine zn_iadd (pc := 2837) dW_law_2837 ?_
  refine zs_sld (pc := 2838) dW_law_2838 (vp_in_nI (by omega) (by omega)) ?_
  refine zs_aload_n (pc := 2839) dW_law_2839 rfl ?_
  refine zs_iload (pc := 2840) dW_law_2840 rfl ?_
  refine zs_iconst (pc := 2842) dW_law_2842 zi_2 ?_
  refine zn_iadd (pc := 2843) dW_law_2843 ?_
  refine zs_sld (pc := 2844) dW_law_2844 (vp_in_nI (by omega) (by omega)) ?_
  refine zs_aload_n (pc := 2845) dW_law_2845 rfl ?_
  refine zcX_4 (pc := 2846) (d2 := d - 1) (s_W_formatResults hl (by omega) hX (by omega) _ _ (by omega) h3) dW_law_2846 kW_336 mdW_formatResults msW_formatResults (by decide) (Nat.le_of_ble_eq_true rfl) (by omega) (by omega) (by omega) (fun v h1 n1 hq => ?_) (fun E h1 n1 hq => absurd hq.1 (by intro q; cases q))
  obtain ⟨hv9, hn9, hf9, hX1, f2, h31, hv0⟩ := hq
  obtain rfl := Sum.inl.inj hv9
  have hM1 := MS.sm hM (h1 := h1) (fun q q1 q2 => hf9 q (by omega) (by omega))
  have m01 := (hf9 a (by omega) (by omega)).trans m0
  have m11 := (hf9 (a + 1) (by omega) (by omega)).trans m1
  have h41 := (hf9 t (by omega) (by omega)).trans h4
  rw [← z2_id m01 m11]
  obtain ⟨⟨A2, m2⟩, ⟨S, mS, mS2⟩, ⟨U, m4, mP⟩, m5, m6, m7, m8, ⟨C9, m9⟩⟩ := id hM1
  have hlt : (aFmtR g (zgX Γ (nI (i + 1)).toNatClampNeg) (zgX Γ (nI (i + 2)).toNatClampNeg)).1 < 2 := by
      unfold aFmtR
      (repeat' split) <;> exact Nat.le_of_ble_eq_true rfl
  refine zs_istore (pc := 2849) (ls2 := [_, _, _, _, _, _, _, _, _]) dW_law_2849 (Nat.le_of_ble_eq_true rfl) rfl ?_
  refine zs_aload_n (pc := 2851) dW_law_2851 rfl ?_
  refine zs_aload_n (pc := 2852) dW_law_2852 rfl ?_
  refine zs_iload (pc := 2853) dW_law_2853 rfl ?_
  refine zs_iconst (pc := 2855) dW_law_2855 zi_1 ?_
  refine zn_iadd (pc := 2856) dW_law_2856 ?_
  refine zs_sld (pc := 2857) dW_law_2857 (vp_in_nI (by omega) (by omega)) ?_
  refine zs_aload_n (pc := 2858) dW_law_2858 rfl ?_
  refine zs_iload (pc := 2859) dW_law_2859 rfl ?_
  refine zs_iconst (pc := 2861) dW_law_2861 zi_2 ?_
  refine zn_iadd (pc := 2862) dW_law_2862 ?_
  refine zs_sld (pc := 2863) dW_law_2863 (vp_in_nI (by omega) (by omega)) ?_
  refine zcVQ_2 (pc := 2864) (d2 := d - 1) (s_M_formatResults (s12 := nI 0) hl (by omega) m6 hI (by omega) _ _) dW_law_2864 kW_338 mdM_formatResults miM_formatResults mvM_formatResults rfl (by first | exact z2_a | exact hx) rfl (Nat.le_of_ble_eq_true rfl) (by omega) (by omega) (by omega) (fun v h1 n1 hq => ?_) (fun E h1 n1 hq => absurd hq.1 (by intro q; cases q))
  obtain ⟨hv8, rfl, hb, rfl, m6b, hbq⟩ := hq
  obtain rfl := Sum.inl.inj hv8
  refine zs_istore (pc := 2867) (ls2 := [_, _, _, _, _, _, _, _, _]) dW_law_2867 (Nat.le_of_ble_eq_true rfl) rfl ?_
  refine zs_aload_n (pc := 2869) dW_law_2869 rfl ?_
  refine zcV1_0 (pc := 2870) (d2 := d - 1) (s_M_thrown hl) dW_law_2870 kW_183 mdM_thrown miM_thrown mvM_thrown rfl (by first | exact z2_a | exact hx) rfl (Nat.le_of_ble_eq_true rfl) (by omega) (by omega) (by omega) ?_
  refine zs_iload (pc := 2873) dW_law_2873 rfl ?_
  refine zs_icmp_eq (pc := 2875) 2880 dW_law_2875 rfl (fun _ => ?_) (fun h9 => absurd h9 (fun q => q rfl))
  refine zs_iload (pc := 2880) dW_law_2880 rfl ?_
  refine zs_if_ne (pc := 2882) 2897 dW_law_2882 rfl (fun hb9 => ?_) (fun hb9 => ?_)
  · refine zs_goto (pc := 2897) 3260 dW_law_2897 rfl ?_
    exact K _ _ _ _ _ _ _ _ (by omega) (by omega) (by omega) (zLI_mk ha hr ht hX1 (fun q hq => hbq q (by omega)) ⟨⟨A2, (hbq _ (by omega)).trans m2⟩, ⟨S, (hbq _ (by omega)).trans mS, mS2⟩, ⟨U, (hbq _ (by omega)).trans m4, mP⟩, (hbq _ (by omega)).trans m5, m6b, (hbq _ (by omega)).trans m7, (hbq _ (by omega)).trans m8, ⟨C9, (hbq _ (by omega)).trans m9⟩⟩ h31 h41 hc8 (zLr_b hI (by omega) hLb) her hfl)
  · have e0 : (aFmtR g (zgX Γ (nI (i + 1)).toNatClampNeg) (zgX Γ (nI (i + 2)).toNatClampNeg)).1 = 0 := Decidable.byContradiction fun q => nI_ne (by omega) (by decide) q hb9
    have z0 : (nI 0).toNatClampNeg = 0 := by decide
    have em : (aFmtR g (zgX Γ (nI (i + 1)).toNatClampNeg) (zgX Γ (nI (i + 2)).toNatClampNeg)).2 = (aFmtR g (zgX Γ (nI (i + 1)).toNatClampNeg) (zgX Γ (nI (i + 2)).toNatClampNeg)).2 := rfl
    have ec : lg_cmp (f2 (nI 0).toNatClampNeg) (aFmtR g (zgX Γ (nI (i + 1)).toNatClampNeg) (zgX Γ (nI (i + 2)).toNatClampNeg)).2.toInt64 = 0 := by rw [z0, hv0 e0, em]; exact lg_same
    refine zs_aload_n (pc := 2885) dW_law_2885 rfl ?_
    refine zs_iconst (pc := 2886) dW_law_2886 zi_0 ?_
    refine zs_lald (pc := 2887) dW_law_2887 (by (rw [z2_n (by omega) (by omega), hbq _ (by omega)]; exact h31)) (vp_in_nI (by decide) (by decide)) ?_
    refine zs_iload (pc := 2888) dW_law_2888 rfl ?_
    refine zs_i2l (pc := 2890) dW_law_2890 ?_
    refine zs_lcmp (pc := 2891) dW_law_2891 ?_
    refine zs_if_eq (pc := 2892) 2897 dW_law_2892 rfl (fun _ => ?_) (fun h9 => absurd h9 (fun q => q ec))
    refine zs_goto (pc := 2897) 3260 dW_law_2897 rfl ?_
    exact K _ _ _ _ _ _ _ _ (by omega) (by omega) (by omega) (zLI_mk ha hr ht hX1 (fun q hq => hbq q (by omega)) ⟨⟨A2, (hbq _ (by omega)).trans m2⟩, ⟨S, (hbq _ (by omega)).trans mS, mS2⟩, ⟨U, (hbq _ (by omega)).trans m4, mP⟩, (hbq _ (by omega)).trans m5, m6b, (hbq _ (by omega)).trans m7, (hbq _ (by omega)).trans m8, ⟨C9, (hbq _ (by omega)).trans m9⟩⟩ h31 h41 hc8 (zLr_b hI (by omega) hLb) her hfl)
theorem sL_lineChar {Γ : zG} {l : Launch} (hl : l.stackTraces = false) {d mc ms : Nat} (hd : 12 ≤ d) {FN : List Frame → Array Value → State → State → Prop} {x a r t n k ks i B : Nat} {h : zH} {v6 v7 v8 : Option Value} (ha : a = x + 481) (hr : r = a + 10) (ht : t = a + 11) (hB : B + 640 < 2 ^ 20) (hi : i + 4 ≤ zgL Γ) (hZ : zgL Γ < 2 ^ 31) (hk : k + 1 ≤ mc) (hks : ks + 6 ≤ ms) (hLI : zLI x a r t B h) (K : ∀ (h9 : zH) (n9 k9 ks9 B9 : Nat) (w6 w7 w8 : Option Value), k9 ≤ k + 1 → ks9 ≤ ks + 6 → B9 ≤ B + 300 → zLI x a r t B9 h9 → Z Γ l mW_law d mc ms FN 3260 [some (.ref (zgS Γ)), some (.ref x), some (.ref a), some (.ref r), some (.ref t), some (.int (nI i)), w6, w7, w8] [] h9 n9 k9 ks9) : Z Γ l mW_law d mc ms FN 2900 [some (.ref (zgS Γ)), some (.ref x), some (.ref a), some (.ref r), some (.ref t), some (.int (nI i)), v6, v7, v8] [] h n k ks := by
  obtain ⟨g, P, c, sv, er, fl, T, np, L, f0, f1, s8, s16, s17, s18, s19, s20, hX, m0, m1, hM, h3, h4, hc8, hLb, her, hfl⟩ := hLI
  have hI : IG B g := hX.2.2.1
  obtain ⟨⟨st, hst, hx, htr⟩, hXr⟩ := id hX
  refine zs_aload_n (pc := 2900) dW_law_2900 rfl ?_
  refine zs_aload_n (pc := 2901) dW_law_2901 rfl ?_
  refine zs_iload (pc := 2902) dW_law_2902 rfl ?_
  refine zs_iconst (pc := 2904) dW_law_2904 zi_1 ?_
  refine zn_iadd (pc := 2905) dW_law_2905 ?_
  refine zs_sld (pc := 2906) dW_law_2906 (vp_in_nI (by omega) (by omega)) ?_
  refine zs_aload_n (pc := 2907) dW_law_2907 rfl ?_
  refine zcX_3 (pc := 2908) (d2 := d - 1) (s_W_lineChar hl (by omega) hX (by omega) hLb.1 hLb.2 _ (by omega) h3) dW_law_2908 kW_339 mdW_lineChar msW_lineChar (by decide) (Nat.le_of_ble_eq_true rfl) (by omega) (by omega) (by omega) (fun v h1 n1 hq => ?_) (fun E h1 n1 hq => absurd hq.1 (by intro q; cases q))
  obtain ⟨hv9, hn9, hf9, hX1, f2, h31, hv0⟩ := hq
  obtain rfl := Sum.inl.inj hv9
  have hM1 := MS.sm hM (h1 := h1) (fun q q1 q2 => hf9 q (by omega) (by omega))
  have m01 := (hf9 a (by omega) (by omega)).trans m0
  have m11 := (hf9 (a + 1) (by omega) (by omega)).trans m1
  have h41 := (hf9 t (by omega) (by omega)).trans h4
  rw [← z2_id m01 m11]
  obtain ⟨⟨A2, m2⟩, ⟨S, mS, mS2⟩, ⟨U, m4, mP⟩, m5, m6, m7, m8, ⟨C9, m9⟩⟩ := id hM1
  have hlt : (aLine L (zgX Γ (nI (i + 1)).toNatClampNeg)).1 < 2 := by
      unfold aLine
      (repeat' split) <;> exact Nat.le_of_ble_eq_true rfl
  refine zs_istore (pc := 2911) (ls2 := [_, _, _, _, _, _, _, _, _]) dW_law_2911 (Nat.le_of_ble_eq_true rfl) rfl ?_
  refine zs_aload_n (pc := 2913) dW_law_2913 rfl ?_
  refine zs_aload_n (pc := 2914) dW_law_2914 rfl ?_
  refine zs_iload (pc := 2915) dW_law_2915 rfl ?_
  refine zs_iconst (pc := 2917) dW_law_2917 zi_1 ?_
  refine zn_iadd (pc := 2918) dW_law_2918 ?_
  refine zs_sld (pc := 2919) dW_law_2919 (vp_in_nI (by omega) (by omega)) ?_
  refine zcV1_1 (pc := 2920) (d2 := d - 1) (s_M_lineChar hl (by omega) m6 hLb.1 hLb.2 _) dW_law_2920 kW_341 mdM_lineChar miM_lineChar mvM_lineChar rfl (by first | exact z2_a | exact hx) rfl (Nat.le_of_ble_eq_true rfl) (by omega) (by omega) (by omega) ?_
  refine zs_istore (pc := 2923) (ls2 := [_, _, _, _, _, _, _, _, _]) dW_law_2923 (Nat.le_of_ble_eq_true rfl) rfl ?_
  refine zs_aload_n (pc := 2925) dW_law_2925 rfl ?_
  refine zcV1_0 (pc := 2926) (d2 := d - 1) (s_M_thrown hl) dW_law_2926 kW_183 mdM_thrown miM_thrown mvM_thrown rfl (by first | exact z2_a | exact hx) rfl (Nat.le_of_ble_eq_true rfl) (by omega) (by omega) (by omega) ?_
  refine zs_iload (pc := 2929) dW_law_2929 rfl ?_
  refine zs_icmp_eq (pc := 2931) 2936 dW_law_2931 rfl (fun _ => ?_) (fun h9 => absurd h9 (fun q => q rfl))
  refine zs_iload (pc := 2936) dW_law_2936 rfl ?_
  refine zs_if_ne (pc := 2938) 2953 dW_law_2938 rfl (fun hb9 => ?_) (fun hb9 => ?_)
  · refine zs_goto (pc := 2953) 3260 dW_law_2953 rfl ?_
    exact K _ _ _ _ _ _ _ _ (by omega) (by omega) (by omega) (zLI_mk ha hr ht hX1 (fun _ _ => rfl) hM1 h31 h41 hc8 hLb her hfl)
  · have e0 : (aLine L (zgX Γ (nI (i + 1)).toNatClampNeg)).1 = 0 := Decidable.byContradiction fun q => nI_ne (by omega) (by decide) q hb9
    have z0 : (nI 0).toNatClampNeg = 0 := by decide
    have em : (mCh (aLine L (zgX Γ (nI (i + 1)).toNatClampNeg))) = (aLine L (zgX Γ (nI (i + 1)).toNatClampNeg)).2 := by unfold mCh; rw [if_pos e0]
    have ec : lg_cmp (f2 (nI 0).toNatClampNeg) (mCh (aLine L (zgX Γ (nI (i + 1)).toNatClampNeg))).toInt64 = 0 := by rw [z0, hv0 e0, em]; exact lg_same
    refine zs_aload_n (pc := 2941) dW_law_2941 rfl ?_
    refine zs_iconst (pc := 2942) dW_law_2942 zi_0 ?_
    refine zs_lald (pc := 2943) dW_law_2943 (by (rw [z2_n (by omega) (by omega)]; exact h31)) (vp_in_nI (by decide) (by decide)) ?_
    refine zs_iload (pc := 2944) dW_law_2944 rfl ?_
    refine zs_i2l (pc := 2946) dW_law_2946 ?_
    refine zs_lcmp (pc := 2947) dW_law_2947 ?_
    refine zs_if_eq (pc := 2948) 2953 dW_law_2948 rfl (fun _ => ?_) (fun h9 => absurd h9 (fun q => q ec))
    refine zs_goto (pc := 2953) 3260 dW_law_2953 rfl ?_
    exact K _ _ _ _ _ _ _ _ (by omega) (by omega) (by omega) (zLI_mk ha hr ht hX1 (fun _ _ => rfl) hM1 h31 h41 hc8 hLb her hfl)
theorem sL_append {Γ : zG} {l : Launch} (hl : l.stackTraces = false) {d mc ms : Nat} (hd : 12 ≤ d) {FN : List Frame → Array Value → State → State → Prop} {x a r t n k ks i B : Nat} {h : zH} {v6 v7 v8 : Option Value} (ha : a = x + 481) (hr : r = a + 10) (ht : t = a + 11) (hB : B + 640 < 2 ^ 20) (hi : i + 4 ≤ zgL Γ) (hZ : zgL Γ < 2 ^ 31) (hk : k + 1 ≤ mc) (hks : ks + 6 ≤ ms) (hLI : zLI x a r t B h) (K : ∀ (h9 : zH) (n9 k9 ks9 B9 : Nat) (w6 w7 w8 : Option Value), k9 ≤ k + 1 → ks9 ≤ ks + 6 → B9 ≤ B + 300 → zLI x a r t B9 h9 → Z Γ l mW_law d mc ms FN 3260 [some (.ref (zgS Γ)), some (.ref x), some (.ref a), some (.ref r), some (.ref t), some (.int (nI i)), w6, w7, w8] [] h9 n9 k9 ks9) : Z Γ l mW_law d mc ms FN 2956 [some (.ref (zgS Γ)), some (.ref x), some (.ref a), some (.ref r), some (.ref t), some (.int (nI i)), v6, v7, v8] [] h n k ks := by
  obtain ⟨g, P, c, sv, er, fl, T, np, L, f0, f1, s8, s16, s17, s18, s19, s20, hX, m0, m1, hM, h3, h4, hc8, hLb, her, hfl⟩ := hLI
  have hI : IG B g := hX.2.2.1
  obtain ⟨⟨st, hst, hx, htr⟩, hXr⟩ := id hX
  have hv : (zgX Γ (nI (i + 1)).toNatClampNeg).toUInt32.toNat % 65536 < 65536 := Nat.mod_lt _ (by decide)
  have ei := zi2c (v := zgX Γ (nI (i + 1)).toNatClampNeg)
  generalize (zgX Γ (nI (i + 1)).toNatClampNeg).toUInt32.toNat % 65536 = v at hv ei
  refine zs_aload_n (pc := 2956) dW_law_2956 rfl ?_
  refine zs_aload_n (pc := 2957) dW_law_2957 rfl ?_
  refine zs_iload (pc := 2958) dW_law_2958 rfl ?_
  refine zs_iconst (pc := 2960) dW_law_2960 zi_1 ?_
  refine zn_iadd (pc := 2961) dW_law_2961 ?_
  refine zs_sld (pc := 2962) dW_law_2962 (vp_in_nI (by omega) (by omega)) ?_
  refine zs_i2c (pc := 2963) dW_law_2963 ?_
  rw [ei]
  refine zs_aload_n (pc := 2964) dW_law_2964 rfl ?_
  refine zcX_3 (pc := 2965) (d2 := d - 1) (s_W_append hl (by omega) hX (by omega) hv (by omega) h3) dW_law_2965 kW_342 mdW_append msW_append (by decide) (Nat.le_of_ble_eq_true rfl) (by omega) (by omega) (by omega) (fun v h1 n1 hq => ?_) (fun E h1 n1 hq => absurd hq.1 (by intro q; cases q))
  obtain ⟨hv9, hn9, hf9, hX1, f2, h31, hv0⟩ := hq
  obtain rfl := Sum.inl.inj hv9
  have hM1 := MS.sm hM (h1 := h1) (fun q q1 q2 => hf9 q (by omega) (by omega))
  have m01 := (hf9 a (by omega) (by omega)).trans m0
  have m11 := (hf9 (a + 1) (by omega) (by omega)).trans m1
  have h41 := (hf9 t (by omega) (by omega)).trans h4
  rw [← z2_id m01 m11]
  obtain ⟨⟨A2, m2⟩, ⟨S, mS, mS2⟩, ⟨U, m4, mP⟩, m5, m6, m7, m8, ⟨C9, m9⟩⟩ := id hM1
  have hlt : (aApp np v).1 < 3 := by
      unfold aApp
      (repeat' split) <;> exact Nat.le_of_ble_eq_true rfl
  refine zs_istore (pc := 2968) (ls2 := [_, _, _, _, _, _, _, _, _]) dW_law_2968 (Nat.le_of_ble_eq_true rfl) rfl ?_
  refine zs_aload_n (pc := 2970) dW_law_2970 rfl ?_
  refine zs_aload_n (pc := 2971) dW_law_2971 rfl ?_
  refine zs_iload (pc := 2972) dW_law_2972 rfl ?_
  refine zs_iconst (pc := 2974) dW_law_2974 zi_1 ?_
  refine zn_iadd (pc := 2975) dW_law_2975 ?_
  refine zs_sld (pc := 2976) dW_law_2976 (vp_in_nI (by omega) (by omega)) ?_
  refine zs_i2c (pc := 2977) dW_law_2977 ?_
  rw [ei]
  refine zcV1_1 (pc := 2978) (d2 := d - 1) (s_M_append hl (by omega) m5 hX.2.2.2.2.2.2.2.1 hv) dW_law_2978 kW_345 mdM_append miM_append mvM_append rfl (by first | exact z2_a | exact hx) rfl (Nat.le_of_ble_eq_true rfl) (by omega) (by omega) (by omega) ?_
  refine zs_istore (pc := 2981) (ls2 := [_, _, _, _, _, _, _, _, _]) dW_law_2981 (Nat.le_of_ble_eq_true rfl) rfl ?_
  refine zs_aload_n (pc := 2983) dW_law_2983 rfl ?_
  refine zcV1_0 (pc := 2984) (d2 := d - 1) (s_M_thrown hl) dW_law_2984 kW_183 mdM_thrown miM_thrown mvM_thrown rfl (by first | exact z2_a | exact hx) rfl (Nat.le_of_ble_eq_true rfl) (by omega) (by omega) (by omega) ?_
  refine zs_iload (pc := 2987) dW_law_2987 rfl ?_
  refine zs_icmp_eq (pc := 2989) 2994 dW_law_2989 rfl (fun _ => ?_) (fun h9 => absurd h9 (fun q => q rfl))
  refine zs_iload (pc := 2994) dW_law_2994 rfl ?_
  refine zs_if_ne (pc := 2996) 3011 dW_law_2996 rfl (fun hb9 => ?_) (fun hb9 => ?_)
  · refine zs_goto (pc := 3011) 3260 dW_law_3011 rfl ?_
    exact K _ _ _ _ _ _ _ _ (by omega) (by omega) (by omega) (zLI_mk ha hr ht hX1 (by intro q hq; split <;> first | rfl | exact zu_n (by omega)) ⟨⟨A2, by split <;> first | exact m2 | (rw [zu_n (by omega)]; exact m2)⟩, ⟨S, by split <;> first | exact mS | (rw [zu_n (by omega)]; exact mS), mS2⟩, ⟨U, by split <;> first | exact m4 | (rw [zu_n (by omega)]; exact m4), mP⟩, by split <;> first | exact zu_s | exact m5, ⟨m6.choose, by split <;> first | exact m6.choose_spec.1 | (rw [zu_n (by omega)]; exact m6.choose_spec.1), m6.choose_spec.2⟩, by split <;> first | exact m7 | (rw [zu_n (by omega)]; exact m7), by split <;> first | exact m8 | (rw [zu_n (by omega)]; exact m8), ⟨C9, by split <;> first | exact m9 | (rw [zu_n (by omega)]; exact m9)⟩⟩ h31 h41 hc8 hLb her hfl)
  · have e0 : (aApp np v).1 = 0 := Decidable.byContradiction fun q => nI_ne (by omega) (by decide) q hb9
    have z0 : (nI 0).toNatClampNeg = 0 := by decide
    have em : (aApp np v).2 = (aApp np v).2 := rfl
    have ec : lg_cmp (f2 (nI 0).toNatClampNeg) (aApp np v).2.toInt64 = 0 := by rw [z0, hv0 e0, em]; exact lg_same
    refine zs_aload_n (pc := 2999) dW_law_2999 rfl ?_
    refine zs_iconst (pc := 3000) dW_law_3000 zi_0 ?_
    refine zs_lald (pc := 3001) dW_law_3001 (by exact (z2_n (by omega) (by omega)).trans (by split <;> first | exact h31 | (rw [zu_n (by omega)]; exact h31))) (vp_in_nI (by decide) (by decide)) ?_
    refine zs_iload (pc := 3002) dW_law_3002 rfl ?_
    refine zs_i2l (pc := 3004) dW_law_3004 ?_
    refine zs_lcmp (pc := 3005) dW_law_3005 ?_
    refine zs_if_eq (pc := 3006) 3011 dW_law_3006 rfl (fun _ => ?_) (fun h9 => absurd h9 (fun q => q ec))
    refine zs_goto (pc := 3011) 3260 dW_law_3011 rfl ?_
    exact K _ _ _ _ _ _ _ _ (by omega) (by omega) (by omega) (zLI_mk ha hr ht hX1 (by intro q hq; split <;> first | rfl | exact zu_n (by omega)) ⟨⟨A2, by split <;> first | exact m2 | (rw [zu_n (by omega)]; exact m2)⟩, ⟨S, by split <;> first | exact mS | (rw [zu_n (by omega)]; exact mS), mS2⟩, ⟨U, by split <;> first | exact m4 | (rw [zu_n (by omega)]; exact m4), mP⟩, by split <;> first | exact zu_s | exact m5, ⟨m6.choose, by split <;> first | exact m6.choose_spec.1 | (rw [zu_n (by omega)]; exact m6.choose_spec.1), m6.choose_spec.2⟩, by split <;> first | exact m7 | (rw [zu_n (by omega)]; exact m7), by split <;> first | exact m8 | (rw [zu_n (by omega)]; exact m8), ⟨C9, by split <;> first | exact m9 | (rw [zu_n (by omega)]; exact m9)⟩⟩ h31 h41 hc8 hLb her hfl)

