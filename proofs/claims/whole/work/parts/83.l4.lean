/-! the law: the steps, 2 -/
theorem sL_matches {Γ : zG} {l : Launch} (hl : l.stackTraces = false) {d mc ms : Nat} (hd : 12 ≤ d) {FN : List Frame → Array Value → State → State → Prop} {x a r t n k ks i B : Nat} {h : zH} {v6 v7 v8 : Option Value} (ha : a = x + 481) (hr : r = a + 10) (ht : t = a + 11) (hB : B + 640 < 2 ^ 20) (hi : i + 4 ≤ zgL Γ) (hZ : zgL Γ < 2 ^ 31) (hk : k + 1 ≤ mc) (hks : ks + 6 ≤ ms) (hLI : zLI x a r t B h) (K : ∀ (h9 : zH) (n9 k9 ks9 B9 : Nat) (w6 w7 w8 : Option Value), k9 ≤ k + 1 → ks9 ≤ ks + 6 → B9 ≤ B + 300 → zLI x a r t B9 h9 → Z Γ l mW_law d mc ms FN 3260 [some (.ref (zgS Γ)), some (.ref x), some (.ref a), some (.ref r), some (.ref t), some (.int (nI i)), w6, w7, w8] [] h9 n9 k9 ks9) : Z Γ l mW_law d mc ms FN 1432 [some (.ref (zgS Γ)), some (.ref x), some (.ref a), some (.ref r), some (.ref t), some (.int (nI i)), v6, v7, v8] [] h n k ks := by
  obtain ⟨g, P, c, sv, er, fl, T, np, L, f0, f1, s8, s16, s17, s18, s19, s20, hX, m0, m1, hM, h3, h4, hc8, hLb, her, hfl⟩ := hLI
  have hI : IG B g := hX.2.2.1
  obtain ⟨⟨st, hst, hx, htr⟩, hXr⟩ := id hX
  refine zs_aload_n (pc := 1432) dW_law_1432 rfl ?_
  refine zs_aload_n (pc := 1433) dW_law_1433 rfl ?_
  refine zs_iload (pc := 1434) dW_law_1434 rfl ?_
  refine zs_iconst (pc := 1436) dW_law_1436 zi_1 ?_
  refine zn_iadd (pc := 1437) dW_law_1437 ?_
  refine zs_sld (pc := 1438) dW_law_1438 (vp_in_nI (by omega) (by omega)) ?_
  refine zs_aload_n (pc := 1439) dW_law_1439 rfl ?_
  refine zs_iload (pc := 1440) dW_law_1440 rfl ?_
  refine zs_iconst (pc := 1442) dW_law_1442 zi_2 ?_
  refine zn_iadd (pc := 1443) dW_law_1443 ?_
  refine zs_sld (pc := 1444) dW_law_1444 (vp_in_nI (by omega) (by omega)) ?_
  refine zs_aload_n (pc := 1445) dW_law_1445 rfl ?_
  refine zs_iload (pc := 1446) dW_law_1446 rfl ?_
  refine zs_iconst (pc := 1448) dW_law_1448 zi_3 ?_
  refine zn_iadd (pc := 1449) dW_law_1449 ?_
  refine zs_sld (pc := 1450) dW_law_1450 (vp_in_nI (by omega) (by omega)) ?_
  refine zs_aload_n (pc := 1451) dW_law_1451 rfl ?_
  refine zcX_5 (pc := 1452) (d2 := d - 1) (s_W_matches hl (by omega) hX (by omega) _ _ _ (by omega) h3) dW_law_1452 kW_246 mdW_matches msW_matches (by decide) (Nat.le_of_ble_eq_true rfl) (by omega) (by omega) (by omega) (fun v h1 n1 hq => ?_) (fun E h1 n1 hq => absurd hq.1 (by intro q; cases q))
  obtain ⟨hv9, hn9, hf9, hX1, f2, h31, hv0⟩ := hq
  obtain rfl := Sum.inl.inj hv9
  have hM1 := MS.sm hM (h1 := h1) (fun q q1 q2 => hf9 q (by omega) (by omega))
  have m01 := (hf9 a (by omega) (by omega)).trans m0
  have m11 := (hf9 (a + 1) (by omega) (by omega)).trans m1
  have h41 := (hf9 t (by omega) (by omega)).trans h4
  rw [← z2_id m01 m11]
  obtain ⟨⟨A2, m2⟩, ⟨S, mS, mS2⟩, ⟨U, m4, mP⟩, m5, m6, m7, m8, ⟨C9, m9⟩⟩ := id hM1
  have hlt : (aMat g (zgX Γ (nI (i + 1)).toNatClampNeg) (zgX Γ (nI (i + 2)).toNatClampNeg) (zgX Γ (nI (i + 3)).toNatClampNeg)).1 < 3 := by
      unfold aMat
      (repeat' split) <;> exact Nat.le_of_ble_eq_true rfl
  refine zs_istore (pc := 1455) (ls2 := [_, _, _, _, _, _, _, _, _]) dW_law_1455 (Nat.le_of_ble_eq_true rfl) rfl ?_
  refine zs_aload_n (pc := 1457) dW_law_1457 rfl ?_
  refine zs_aload_n (pc := 1458) dW_law_1458 rfl ?_
  refine zs_iload (pc := 1459) dW_law_1459 rfl ?_
  refine zs_iconst (pc := 1461) dW_law_1461 zi_1 ?_
  refine zn_iadd (pc := 1462) dW_law_1462 ?_
  refine zs_sld (pc := 1463) dW_law_1463 (vp_in_nI (by omega) (by omega)) ?_
  refine zs_aload_n (pc := 1464) dW_law_1464 rfl ?_
  refine zs_iload (pc := 1465) dW_law_1465 rfl ?_
  refine zs_iconst (pc := 1467) dW_law_1467 zi_2 ?_
  refine zn_iadd (pc := 1468) dW_law_1468 ?_
  refine zs_sld (pc := 1469) dW_law_1469 (vp_in_nI (by omega) (by omega)) ?_
  refine zs_aload_n (pc := 1470) dW_law_1470 rfl ?_
  refine zs_iload (pc := 1471) dW_law_1471 rfl ?_
  refine zs_iconst (pc := 1473) dW_law_1473 zi_3 ?_
  refine zn_iadd (pc := 1474) dW_law_1474 ?_
  refine zs_sld (pc := 1475) dW_law_1475 (vp_in_nI (by omega) (by omega)) ?_
  refine zcV1_3 (pc := 1476) (d2 := d - 1) (s_M_matches hl (by omega) hI (by omega) _ _ _) dW_law_1476 kW_249 mdM_matches miM_matches mvM_matches rfl (by first | exact z2_a | exact hx) rfl (Nat.le_of_ble_eq_true rfl) (by omega) (by omega) (by omega) ?_
  refine zs_istore (pc := 1479) (ls2 := [_, _, _, _, _, _, _, _, _]) dW_law_1479 (Nat.le_of_ble_eq_true rfl) rfl ?_
  refine zs_aload_n (pc := 1481) dW_law_1481 rfl ?_
  refine zcV1_0 (pc := 1482) (d2 := d - 1) (s_M_thrown hl) dW_law_1482 kW_183 mdM_thrown miM_thrown mvM_thrown rfl (by first | exact z2_a | exact hx) rfl (Nat.le_of_ble_eq_true rfl) (by omega) (by omega) (by omega) ?_
  refine zs_iload (pc := 1485) dW_law_1485 rfl ?_
  refine zs_icmp_eq (pc := 1487) 1492 dW_law_1487 rfl (fun _ => ?_) (fun h9 => absurd h9 (fun q => q rfl))
  refine zs_iload (pc := 1492) dW_law_1492 rfl ?_
  refine zs_if_ne (pc := 1494) 1516 dW_law_1494 rfl (fun hb9 => ?_) (fun hb9 => ?_)
  · refine zs_goto (pc := 1516) 3260 dW_law_1516 rfl ?_
    exact K _ _ _ _ _ _ _ _ (by omega) (by omega) (by omega) (zLI_mk ha hr ht hX1 (fun _ _ => rfl) hM1 h31 h41 hc8 hLb her hfl)
  · have e0 : (aMat g (zgX Γ (nI (i + 1)).toNatClampNeg) (zgX Γ (nI (i + 2)).toNatClampNeg) (zgX Γ (nI (i + 3)).toNatClampNeg)).1 = 0 := Decidable.byContradiction fun q => nI_ne (by omega) (by decide) q hb9
    have z0 : (nI 0).toNatClampNeg = 0 := by decide
    have em : mB (aMat g (zgX Γ (nI (i + 1)).toNatClampNeg) (zgX Γ (nI (i + 2)).toNatClampNeg) (zgX Γ (nI (i + 3)).toNatClampNeg)) = (aMat g (zgX Γ (nI (i + 1)).toNatClampNeg) (zgX Γ (nI (i + 2)).toNatClampNeg) (zgX Γ (nI (i + 3)).toNatClampNeg)).2 := if_pos e0
    rw [em]
    have ev := hv0 e0
    rw [← z0] at ev
    refine zs_aload_n (pc := 1497) dW_law_1497 rfl ?_
    refine zs_iconst (pc := 1498) dW_law_1498 zi_0 ?_
    refine zs_lald (pc := 1499) dW_law_1499 (by (rw [z2_n (by omega) (by omega)]; exact h31)) (vp_in_nI (by decide) (by decide)) ?_
    refine zs_iload (pc := 1500) dW_law_1500 rfl ?_
    refine zs_if_eq (pc := 1502) 1509 dW_law_1502 rfl (fun hb8 => ?_) (fun hb8 => ?_)
    · rw [if_pos hb8] at ev
      have ec : lg_cmp (f2 (nI 0).toNatClampNeg) 0 = 0 := by rw [ev]; exact lg_same
      refine zs_lconst (pc := 1509) (v := 0) dW_law_1509 (by decide) ?_
      refine zs_lcmp (pc := 1510) dW_law_1510 ?_
      refine zs_if_eq (pc := 1511) 1516 dW_law_1511 rfl (fun _ => ?_) (fun h9 => absurd h9 (fun q => q ec))
      refine zs_goto (pc := 1516) 3260 dW_law_1516 rfl ?_
      exact K _ _ _ _ _ _ _ _ (by omega) (by omega) (by omega) (zLI_mk ha hr ht hX1 (fun _ _ => rfl) hM1 h31 h41 hc8 hLb her hfl)
    · rw [if_neg hb8] at ev
      have ec : lg_cmp (f2 (nI 0).toNatClampNeg) 1 = 0 := by rw [ev]; exact lg_same
      refine zs_lconst (pc := 1505) (v := 1) dW_law_1505 (by decide) ?_
      refine zs_goto (pc := 1506) 1510 dW_law_1506 rfl ?_
      refine zs_lcmp (pc := 1510) dW_law_1510 ?_
      refine zs_if_eq (pc := 1511) 1516 dW_law_1511 rfl (fun _ => ?_) (fun h9 => absurd h9 (fun q => q ec))
      refine zs_goto (pc := 1516) 3260 dW_law_1516 rfl ?_
      exact K _ _ _ _ _ _ _ _ (by omega) (by omega) (by omega) (zLI_mk ha hr ht hX1 (fun _ _ => rfl) hM1 h31 h41 hc8 hLb her hfl)
theorem sL_segmentCount {Γ : zG} {l : Launch} (hl : l.stackTraces = false) {d mc ms : Nat} (hd : 12 ≤ d) {FN : List Frame → Array Value → State → State → Prop} {x a r t n k ks i B : Nat} {h : zH} {v6 v7 v8 : Option Value} (ha : a = x + 481) (hr : r = a + 10) (ht : t = a + 11) (hB : B + 640 < 2 ^ 20) (hi : i + 4 ≤ zgL Γ) (hZ : zgL Γ < 2 ^ 31) (hk : k + 1 ≤ mc) (hks : ks + 6 ≤ ms) (hLI : zLI x a r t B h) (K : ∀ (h9 : zH) (n9 k9 ks9 B9 : Nat) (w6 w7 w8 : Option Value), k9 ≤ k + 1 → ks9 ≤ ks + 6 → B9 ≤ B + 300 → zLI x a r t B9 h9 → Z Γ l mW_law d mc ms FN 3260 [some (.ref (zgS Γ)), some (.ref x), some (.ref a), some (.ref r), some (.ref t), some (.int (nI i)), w6, w7, w8] [] h9 n9 k9 ks9) : Z Γ l mW_law d mc ms FN 1519 [some (.ref (zgS Γ)), some (.ref x), some (.ref a), some (.ref r), some (.ref t), some (.int (nI i)), v6, v7, v8] [] h n k ks := by
  obtain ⟨g, P, c, sv, er, fl, T, np, L, f0, f1, s8, s16, s17, s18, s19, s20, hX, m0, m1, hM, h3, h4, hc8, hLb, her, hfl⟩ := hLI
  have hI : IG B g := hX.2.2.1
  obtain ⟨⟨st, hst, hx, htr⟩, hXr⟩ := id hX
  refine zs_aload_n (pc := 1519) dW_law_1519 rfl ?_
  refine zcVQ_0 (pc := 1520) (d2 := d - 1) (s_X_segmentCount hl hX) dW_law_1520 kW_250 mdX_segmentCount miX_segmentCount mvX_segmentCount rfl (by first | exact z2_a | exact hx) rfl (Nat.le_of_ble_eq_true rfl) (by omega) (by omega) (by omega) (fun v h1 n1 hq => ?_) (fun E h1 n1 hq => ?_)
  rotate_left
  · exact absurd rfl hq.1.r.1
  obtain ⟨hq1, hf9, hX1⟩ := hq
  obtain ⟨-, rfl, rfl⟩ := hq1.l
  have hM1 := MS.sm hM (h1 := h1) (fun q q1 q2 => hf9 q (by omega))
  have m01 := (hf9 a (by omega)).trans m0
  have m11 := (hf9 (a + 1) (by omega)).trans m1
  have h41 := (hf9 t (by omega)).trans h4
  rw [← z2_id m01 m11]
  obtain ⟨⟨A2, m2⟩, ⟨S, mS, mS2⟩, ⟨U, m4, mP⟩, m5, m6, m7, m8, ⟨C9, m9⟩⟩ := id hM1
  have h31 := (hf9 r (by omega)).trans h3
  refine zs_aload_n (pc := 1523) dW_law_1523 rfl ?_
  refine zcV1_0 (pc := 1524) (d2 := d - 1) (s_M_segmentCount hl (by omega)) dW_law_1524 kW_253 mdM_segmentCount miM_segmentCount mvM_segmentCount rfl (by first | exact z2_a | exact hx) rfl (Nat.le_of_ble_eq_true rfl) (by omega) (by omega) (by omega) ?_
  refine zs_icmp_eq (pc := 1527) 3260 dW_law_1527 rfl (fun _ => ?_) (fun h9 => absurd h9 (fun q => q rfl))
  exact K _ _ _ _ _ _ _ _ (by omega) (by omega) (by omega) (zLI_mk ha hr ht hX1 (fun _ _ => rfl) hM1 h31 h41 hc8 hLb her hfl)
theorem sL_entriesIn {Γ : zG} {l : Launch} (hl : l.stackTraces = false) {d mc ms : Nat} (hd : 12 ≤ d) {FN : List Frame → Array Value → State → State → Prop} {x a r t n k ks i B : Nat} {h : zH} {v6 v7 v8 : Option Value} (ha : a = x + 481) (hr : r = a + 10) (ht : t = a + 11) (hB : B + 640 < 2 ^ 20) (hi : i + 4 ≤ zgL Γ) (hZ : zgL Γ < 2 ^ 31) (hk : k + 1 ≤ mc) (hks : ks + 6 ≤ ms) (hLI : zLI x a r t B h) (K : ∀ (h9 : zH) (n9 k9 ks9 B9 : Nat) (w6 w7 w8 : Option Value), k9 ≤ k + 1 → ks9 ≤ ks + 6 → B9 ≤ B + 300 → zLI x a r t B9 h9 → Z Γ l mW_law d mc ms FN 3260 [some (.ref (zgS Γ)), some (.ref x), some (.ref a), some (.ref r), some (.ref t), some (.int (nI i)), w6, w7, w8] [] h9 n9 k9 ks9) : Z Γ l mW_law d mc ms FN 1532 [some (.ref (zgS Γ)), some (.ref x), some (.ref a), some (.ref r), some (.ref t), some (.int (nI i)), v6, v7, v8] [] h n k ks := by
  obtain ⟨g, P, c, sv, er, fl, T, np, L, f0, f1, s8, s16, s17, s18, s19, s20, hX, m0, m1, hM, h3, h4, hc8, hLb, her, hfl⟩ := hLI
  have hI : IG B g := hX.2.2.1
  obtain ⟨⟨st, hst, hx, htr⟩, hXr⟩ := id hX
  refine zs_aload_n (pc := 1532) dW_law_1532 rfl ?_
  refine zs_aload_n (pc := 1533) dW_law_1533 rfl ?_
  refine zs_iload (pc := 1534) dW_law_1534 rfl ?_
  refine zs_iconst (pc := 1536) dW_law_1536 zi_1 ?_
  refine zn_iadd (pc := 1537) dW_law_1537 ?_
  refine zs_sld (pc := 1538) dW_law_1538 (vp_in_nI (by omega) (by omega)) ?_
  refine zs_aload_n (pc := 1539) dW_law_1539 rfl ?_
  refine zcX_3 (pc := 1540) (d2 := d - 1) (s_W_entriesIn hl (by omega) hX (by omega) _ (by omega) h3) dW_law_1540 kW_254 mdW_entriesIn msW_entriesIn (by decide) (Nat.le_of_ble_eq_true rfl) (by omega) (by omega) (by omega) (fun v h1 n1 hq => ?_) (fun E h1 n1 hq => absurd hq.1 (by intro q; cases q))
  obtain ⟨hv9, hn9, hf9, hX1, f2, h31, hv0⟩ := hq
  obtain rfl := Sum.inl.inj hv9
  have hM1 := MS.sm hM (h1 := h1) (fun q q1 q2 => hf9 q (by omega) (by omega))
  have m01 := (hf9 a (by omega) (by omega)).trans m0
  have m11 := (hf9 (a + 1) (by omega) (by omega)).trans m1
  have h41 := (hf9 t (by omega) (by omega)).trans h4
  rw [← z2_id m01 m11]
  obtain ⟨⟨A2, m2⟩, ⟨S, mS, mS2⟩, ⟨U, m4, mP⟩, m5, m6, m7, m8, ⟨C9, m9⟩⟩ := id hM1
  have hlt : (aIn g (zgX Γ (nI (i + 1)).toNatClampNeg)).1 < 2 := by
      unfold aIn
      (repeat' split) <;> exact Nat.le_of_ble_eq_true rfl
  refine zs_istore (pc := 1543) (ls2 := [_, _, _, _, _, _, _, _, _]) dW_law_1543 (Nat.le_of_ble_eq_true rfl) rfl ?_
  refine zs_aload_n (pc := 1545) dW_law_1545 rfl ?_
  refine zs_aload_n (pc := 1546) dW_law_1546 rfl ?_
  refine zs_iload (pc := 1547) dW_law_1547 rfl ?_
  refine zs_iconst (pc := 1549) dW_law_1549 zi_1 ?_
  refine zn_iadd (pc := 1550) dW_law_1550 ?_
  refine zs_sld (pc := 1551) dW_law_1551 (vp_in_nI (by omega) (by omega)) ?_
  refine zcV1_1 (pc := 1552) (d2 := d - 1) (s_M_entriesIn hl (by omega) hI (by omega) _) dW_law_1552 kW_256 mdM_entriesIn miM_entriesIn mvM_entriesIn rfl (by first | exact z2_a | exact hx) rfl (Nat.le_of_ble_eq_true rfl) (by omega) (by omega) (by omega) ?_
  refine zs_istore (pc := 1555) (ls2 := [_, _, _, _, _, _, _, _, _]) dW_law_1555 (Nat.le_of_ble_eq_true rfl) rfl ?_
  refine zs_aload_n (pc := 1557) dW_law_1557 rfl ?_
  refine zcV1_0 (pc := 1558) (d2 := d - 1) (s_M_thrown hl) dW_law_1558 kW_183 mdM_thrown miM_thrown mvM_thrown rfl (by first | exact z2_a | exact hx) rfl (Nat.le_of_ble_eq_true rfl) (by omega) (by omega) (by omega) ?_
  refine zs_iload (pc := 1561) dW_law_1561 rfl ?_
  refine zs_icmp_eq (pc := 1563) 1568 dW_law_1563 rfl (fun _ => ?_) (fun h9 => absurd h9 (fun q => q rfl))
  refine zs_iload (pc := 1568) dW_law_1568 rfl ?_
  refine zs_if_ne (pc := 1570) 1585 dW_law_1570 rfl (fun hb9 => ?_) (fun hb9 => ?_)
  · refine zs_goto (pc := 1585) 3260 dW_law_1585 rfl ?_
    exact K _ _ _ _ _ _ _ _ (by omega) (by omega) (by omega) (zLI_mk ha hr ht hX1 (fun _ _ => rfl) hM1 h31 h41 hc8 hLb her hfl)
  · have e0 : (aIn g (zgX Γ (nI (i + 1)).toNatClampNeg)).1 = 0 := Decidable.byContradiction fun q => nI_ne (by omega) (by decide) q hb9
    have z0 : (nI 0).toNatClampNeg = 0 := by decide
    have em : (aIn g (zgX Γ (nI (i + 1)).toNatClampNeg)).2 = (aIn g (zgX Γ (nI (i + 1)).toNatClampNeg)).2 := rfl
    have ec : lg_cmp (f2 (nI 0).toNatClampNeg) (aIn g (zgX Γ (nI (i + 1)).toNatClampNeg)).2.toInt64 = 0 := by rw [z0, hv0 e0, em]; exact lg_same
    refine zs_aload_n (pc := 1573) dW_law_1573 rfl ?_
    refine zs_iconst (pc := 1574) dW_law_1574 zi_0 ?_
    refine zs_lald (pc := 1575) dW_law_1575 (by (rw [z2_n (by omega) (by omega)]; exact h31)) (vp_in_nI (by decide) (by decide)) ?_
    refine zs_iload (pc := 1576) dW_law_1576 rfl ?_
    refine zs_i2l (pc := 1578) dW_law_1578 ?_
    refine zs_lcmp (pc := 1579) dW_law_1579 ?_
    refine zs_if_eq (pc := 1580) 1585 dW_law_1580 rfl (fun _ => ?_) (fun h9 => absurd h9 (fun q => q ec))
    refine zs_goto (pc := 1585) 3260 dW_law_1585 rfl ?_
    exact K _ _ _ _ _ _ _ _ (by omega) (by omega) (by omega) (zLI_mk ha hr ht hX1 (fun _ _ => rfl) hM1 h31 h41 hc8 hLb her hfl)
theorem sL_resultCount {Γ : zG} {l : Launch} (hl : l.stackTraces = false) {d mc ms : Nat} (hd : 12 ≤ d) {FN : List Frame → Array Value → State → State → Prop} {x a r t n k ks i B : Nat} {h : zH} {v6 v7 v8 : Option Value} (ha : a = x + 481) (hr : r = a + 10) (ht : t = a + 11) (hB : B + 640 < 2 ^ 20) (hi : i + 4 ≤ zgL Γ) (hZ : zgL Γ < 2 ^ 31) (hk : k + 1 ≤ mc) (hks : ks + 6 ≤ ms) (hLI : zLI x a r t B h) (K : ∀ (h9 : zH) (n9 k9 ks9 B9 : Nat) (w6 w7 w8 : Option Value), k9 ≤ k + 1 → ks9 ≤ ks + 6 → B9 ≤ B + 300 → zLI x a r t B9 h9 → Z Γ l mW_law d mc ms FN 3260 [some (.ref (zgS Γ)), some (.ref x), some (.ref a), some (.ref r), some (.ref t), some (.int (nI i)), w6, w7, w8] [] h9 n9 k9 ks9) : Z Γ l mW_law d mc ms FN 1588 [some (.ref (zgS Γ)), some (.ref x), some (.ref a), some (.ref r), some (.ref t), some (.int (nI i)), v6, v7, v8] [] h n k ks := by
  obtain ⟨g, P, c, sv, er, fl, T, np, L, f0, f1, s8, s16, s17, s18, s19, s20, hX, m0, m1, hM, h3, h4, hc8, hLb, her, hfl⟩ := hLI
  have hI : IG B g := hX.2.2.1
  obtain ⟨⟨st, hst, hx, htr⟩, hXr⟩ := id hX
  refine zs_aload_n (pc := 1588) dW_law_1588 rfl ?_
  refine zs_aload_n (pc := 1589) dW_law_1589 rfl ?_
  refine zs_iload (pc := 1590) dW_law_1590 rfl ?_
  refine zs_iconst (pc := 1592) dW_law_1592 zi_1 ?_
  refine zn_iadd (pc := 1593) dW_law_1593 ?_
  refine zs_sld (pc := 1594) dW_law_1594 (vp_in_nI (by omega) (by omega)) ?_
  refine zs_aload_n (pc := 1595) dW_law_1595 rfl ?_
  refine zs_iload (pc := 1596) dW_law_1596 rfl ?_
  refine zs_iconst (pc := 1598) dW_law_1598 zi_2 ?_
  refine zn_iadd (pc := 1599) dW_law_1599 ?_
  refine zs_sld (pc := 1600) dW_law_1600 (vp_in_nI (by omega) (by omega)) ?_
  refine zs_aload_n (pc := 1601) dW_law_1601 rfl ?_
  refine zcX_4 (pc := 1602) (d2 := d - 1) (s_W_resultCount hl (by omega) hX (by omega) _ _ (by omega) h3) dW_law_1602 kW_257 mdW_resultCount msW_resultCount (by decide) (Nat.le_of_ble_eq_true rfl) (by omega) (by omega) (by omega) (fun v h1 n1 hq => ?_) (fun E h1 n1 hq => absurd hq.1 (by intro q; cases q))
  obtain ⟨hv9, hn9, hf9, hX1, f2, h31, hv0⟩ := hq
  obtain rfl := Sum.inl.inj hv9
  have hM1 := MS.sm hM (h1 := h1) (fun q q1 q2 => hf9 q (by omega) (by omega))
  have m01 := (hf9 a (by omega) (by omega)).trans m0
  have m11 := (hf9 (a + 1) (by omega) (by omega)).trans m1
  have h41 := (hf9 t (by omega) (by omega)).trans h4
  rw [← z2_id m01 m11]
  obtain ⟨⟨A2, m2⟩, ⟨S, mS, mS2⟩, ⟨U, m4, mP⟩, m5, m6, m7, m8, ⟨C9, m9⟩⟩ := id hM1
  have hlt : (aRes g (zgX Γ (nI (i + 1)).toNatClampNeg) (zgX Γ (nI (i + 2)).toNatClampNeg)).1 < 2 := by
      unfold aRes
      (repeat' split) <;> exact Nat.le_of_ble_eq_true rfl
  refine zs_istore (pc := 1605) (ls2 := [_, _, _, _, _, _, _, _, _]) dW_law_1605 (Nat.le_of_ble_eq_true rfl) rfl ?_
  refine zs_aload_n (pc := 1607) dW_law_1607 rfl ?_
  refine zs_aload_n (pc := 1608) dW_law_1608 rfl ?_
  refine zs_iload (pc := 1609) dW_law_1609 rfl ?_
  refine zs_iconst (pc := 1611) dW_law_1611 zi_1 ?_
  refine zn_iadd (pc := 1612) dW_law_1612 ?_
  refine zs_sld (pc := 1613) dW_law_1613 (vp_in_nI (by omega) (by omega)) ?_
  refine zs_aload_n (pc := 1614) dW_law_1614 rfl ?_
  refine zs_iload (pc := 1615) dW_law_1615 rfl ?_
  refine zs_iconst (pc := 1617) dW_law_1617 zi_2 ?_
  refine zn_iadd (pc := 1618) dW_law_1618 ?_
  refine zs_sld (pc := 1619) dW_law_1619 (vp_in_nI (by omega) (by omega)) ?_
  refine zcV1_2 (pc := 1620) (d2 := d - 1) (s_M_resultCount hl (by omega) hI _ _) dW_law_1620 kW_259 mdM_resultCount miM_resultCount mvM_resultCount rfl (by first | exact z2_a | exact hx) rfl (Nat.le_of_ble_eq_true rfl) (by omega) (by omega) (by omega) ?_
  refine zs_istore (pc := 1623) (ls2 := [_, _, _, _, _, _, _, _, _]) dW_law_1623 (Nat.le_of_ble_eq_true rfl) rfl ?_
  refine zs_aload_n (pc := 1625) dW_law_1625 rfl ?_
  refine zcV1_0 (pc := 1626) (d2 := d - 1) (s_M_thrown hl) dW_law_1626 kW_183 mdM_thrown miM_thrown mvM_thrown rfl (by first | exact z2_a | exact hx) rfl (Nat.le_of_ble_eq_true rfl) (by omega) (by omega) (by omega) ?_
  refine zs_iload (pc := 1629) dW_law_1629 rfl ?_
  refine zs_icmp_eq (pc := 1631) 1636 dW_law_1631 rfl (fun _ => ?_) (fun h9 => absurd h9 (fun q => q rfl))
  refine zs_iload (pc := 1636) dW_law_1636 rfl ?_
  refine zs_if_ne (pc := 1638) 1653 dW_law_1638 rfl (fun hb9 => ?_) (fun hb9 => ?_)
  · refine zs_goto (pc := 1653) 3260 dW_law_1653 rfl ?_
    exact K _ _ _ _ _ _ _ _ (by omega) (by omega) (by omega) (zLI_mk ha hr ht hX1 (fun _ _ => rfl) hM1 h31 h41 hc8 hLb her hfl)
  · have e0 : (aRes g (zgX Γ (nI (i + 1)).toNatClampNeg) (zgX Γ (nI (i + 2)).toNatClampNeg)).1 = 0 := Decidable.byContradiction fun q => nI_ne (by omega) (by decide) q hb9
    have z0 : (nI 0).toNatClampNeg = 0 := by decide
    have em : (aRes g (zgX Γ (nI (i + 1)).toNatClampNeg) (zgX Γ (nI (i + 2)).toNatClampNeg)).2 = (aRes g (zgX Γ (nI (i + 1)).toNatClampNeg) (zgX Γ (nI (i + 2)).toNatClampNeg)).2 := rfl
    have ec : lg_cmp (f2 (nI 0).toNatClampNeg) (aRes g (zgX Γ (nI (i + 1)).toNatClampNeg) (zgX Γ (nI (i + 2)).toNatClampNeg)).2.toInt64 = 0 := by rw [z0, hv0 e0, em]; exact lg_same
    refine zs_aload_n (pc := 1641) dW_law_1641 rfl ?_
    refine zs_iconst (pc := 1642) dW_law_1642 zi_0 ?_
    refine zs_lald (pc := 1643) dW_law_1643 (by (rw [z2_n (by omega) (by omega)]; exact h31)) (vp_in_nI (by decide) (by decide)) ?_
    refine zs_iload (pc := 1644) dW_law_1644 rfl ?_
    refine zs_i2l (pc := 1646) dW_law_1646 ?_
    refine zs_lcmp (pc := 1647) dW_law_1647 ?_
    refine zs_if_eq (pc := 1648) 1653 dW_law_1648 rfl (fun _ => ?_) (fun h9 => absurd h9 (fun q => q ec))
    refine zs_goto (pc := 1653) 3260 dW_law_1653 rfl ?_
    exact K _ _ _ _ _ _ _ _ (by omega) (by omega) (by omega) (zLI_mk ha hr ht hX1 (fun _ _ => rfl) hM1 h31 h41 hc8 hLb her hfl)
theorem sL_resultCountByScan {Γ : zG} {l : Launch} (hl : l.stackTraces = false) {d mc ms : Nat} (hd : 12 ≤ d) {FN : List Frame → Array Value → State → State → Prop} {x a r t n k ks i B : Nat} {h : zH} {v6 v7 v8 : Option Value} (ha : a = x + 481) (hr : r = a + 10) (ht : t = a + 11) (hB : B + 640 < 2 ^ 20) (hi : i + 4 ≤ zgL Γ) (hZ : zgL Γ < 2 ^ 31) (hk : k + 1 ≤ mc) (hks : ks + 6 ≤ ms) (hLI : zLI x a r t B h) (K : ∀ (h9 : zH) (n9 k9 ks9 B9 : Nat) (w6 w7 w8 : Option Value), k9 ≤ k + 1 → ks9 ≤ ks + 6 → B9 ≤ B + 300 → zLI x a r t B9 h9 → Z Γ l mW_law d mc ms FN 3260 [some (.ref (zgS Γ)), some (.ref x), some (.ref a), some (.ref r), some (.ref t), some (.int (nI i)), w6, w7, w8] [] h9 n9 k9 ks9) : Z Γ l mW_law d mc ms FN 1656 [some (.ref (zgS Γ)), some (.ref x), some (.ref a), some (.ref r), some (.ref t), some (.int (nI i)), v6, v7, v8] [] h n k ks := by
  obtain ⟨g, P, c, sv, er, fl, T, np, L, f0, f1, s8, s16, s17, s18, s19, s20, hX, m0, m1, hM, h3, h4, hc8, hLb, her, hfl⟩ := hLI
  have hI : IG B g := hX.2.2.1
  obtain ⟨⟨st, hst, hx, htr⟩, hXr⟩ := id hX
  refine zs_aload_n (pc := 1656) dW_law_1656 rfl ?_
  refine zs_aload_n (pc := 1657) dW_law_1657 rfl ?_
  refine zs_iload (pc := 1658) dW_law_1658 rfl ?_
  refine zs_iconst (pc := 1660) dW_law_1660 zi_1 ?_
  refine zn_iadd (pc := 1661) dW_law_1661 ?_
  refine zs_sld (pc := 1662) dW_law_1662 (vp_in_nI (by omega) (by omega)) ?_
  refine zs_aload_n (pc := 1663) dW_law_1663 rfl ?_
  refine zs_iload (pc := 1664) dW_law_1664 rfl ?_
  refine zs_iconst (pc := 1666) dW_law_1666 zi_2 ?_
  refine zn_iadd (pc := 1667) dW_law_1667 ?_
  refine zs_sld (pc := 1668) dW_law_1668 (vp_in_nI (by omega) (by omega)) ?_
  refine zs_aload_n (pc := 1669) dW_law_1669 rfl ?_
  refine zcX_4 (pc := 1670) (d2 := d - 1) (s_W_resultCountByScan hl (by omega) hX (by omega) _ _ (by omega) h3) dW_law_1670 kW_260 mdW_resultCountByScan msW_resultCountByScan (by decide) (Nat.le_of_ble_eq_true rfl) (by omega) (by omega) (by omega) (fun v h1 n1 hq => ?_) (fun E h1 n1 hq => absurd hq.1 (by intro q; cases q))
  obtain ⟨hv9, hn9, hf9, hX1, f2, h31, hv0⟩ := hq
  obtain rfl := Sum.inl.inj hv9
  have hM1 := MS.sm hM (h1 := h1) (fun q q1 q2 => hf9 q (by omega) (by omega))
  have m01 := (hf9 a (by omega) (by omega)).trans m0
  have m11 := (hf9 (a + 1) (by omega) (by omega)).trans m1
  have h41 := (hf9 t (by omega) (by omega)).trans h4
  rw [← z2_id m01 m11]
  obtain ⟨⟨A2, m2⟩, ⟨S, mS, mS2⟩, ⟨U, m4, mP⟩, m5, m6, m7, m8, ⟨C9, m9⟩⟩ := id hM1
  have hlt : (aRes g (zgX Γ (nI (i + 1)).toNatClampNeg) (zgX Γ (nI (i + 2)).toNatClampNeg)).1 < 2 := by
      unfold aRes
      (repeat' split) <;> exact Nat.le_of_ble_eq_true rfl
  refine zs_istore (pc := 1673) (ls2 := [_, _, _, _, _, _, _, _, _]) dW_law_1673 (Nat.le_of_ble_eq_true rfl) rfl ?_
  refine zs_aload_n (pc := 1675) dW_law_1675 rfl ?_
  refine zs_aload_n (pc := 1676) dW_law_1676 rfl ?_
  refine zs_iload (pc := 1677) dW_law_1677 rfl ?_
  refine zs_iconst (pc := 1679) dW_law_1679 zi_1 ?_
  refine zn_iadd (pc := 1680) dW_law_1680 ?_
  refine zs_sld (pc := 1681) dW_law_1681 (vp_in_nI (by omega) (by omega)) ?_
  refine zs_aload_n (pc := 1682) dW_law_1682 rfl ?_
  refine zs_iload (pc := 1683) dW_law_1683 rfl ?_
  refine zs_iconst (pc := 1685) dW_law_1685 zi_2 ?_
  refine zn_iadd (pc := 1686) dW_law_1686 ?_
  refine zs_sld (pc := 1687) dW_law_1687 (vp_in_nI (by omega) (by omega)) ?_
  refine zcV1_2 (pc := 1688) (d2 := d - 1) (s_M_resultCountByScan hl (by omega) hI _ _) dW_law_1688 kW_262 mdM_resultCountByScan miM_resultCountByScan mvM_resultCountByScan rfl (by first | exact z2_a | exact hx) rfl (Nat.le_of_ble_eq_true rfl) (by omega) (by omega) (by omega) ?_
  refine zs_istore (pc := 1691) (ls2 := [_, _, _, _, _, _, _, _, _]) dW_law_1691 (Nat.le_of_ble_eq_true rfl) rfl ?_
  refine zs_aload_n (pc := 1693) dW_law_1693 rfl ?_
  refine zcV1_0 (pc := 1694) (d2 := d - 1) (s_M_thrown hl) dW_law_1694 kW_183 mdM_thrown miM_thrown mvM_thrown rfl (by first | exact z2_a | exact hx) rfl (Nat.le_of_ble_eq_true rfl) (by omega) (by omega) (by omega) ?_
  refine zs_iload (pc := 1697) dW_law_1697 rfl ?_
  refine zs_icmp_eq (pc := 1699) 1704 dW_law_1699 rfl (fun _ => ?_) (fun h9 => absurd h9 (fun q => q rfl))
  refine zs_iload (pc := 1704) dW_law_1704 rfl ?_
  refine zs_if_ne (pc := 1706) 1721 dW_law_1706 rfl (fun hb9 => ?_) (fun hb9 => ?_)
  · refine zs_goto (pc := 1721) 3260 dW_law_1721 rfl ?_
    exact K _ _ _ _ _ _ _ _ (by omega) (by omega) (by omega) (zLI_mk ha hr ht hX1 (fun _ _ => rfl) hM1 h31 h41 hc8 hLb her hfl)
  · have e0 : (aRes g (zgX Γ (nI (i + 1)).toNatClampNeg) (zgX Γ (nI (i + 2)).toNatClampNeg)).1 = 0 := Decidable.byContradiction fun q => nI_ne (by omega) (by decide) q hb9
    have z0 : (nI 0).toNatClampNeg = 0 := by decide
    have em : (aRes g (zgX Γ (nI (i + 1)).toNatClampNeg) (zgX Γ (nI (i + 2)).toNatClampNeg)).2 = (aRes g (zgX Γ (nI (i + 1)).toNatClampNeg) (zgX Γ (nI (i + 2)).toNatClampNeg)).2 := rfl
    have ec : lg_cmp (f2 (nI 0).toNatClampNeg) (aRes g (zgX Γ (nI (i + 1)).toNatClampNeg) (zgX Γ (nI (i + 2)).toNatClampNeg)).2.toInt64 = 0 := by rw [z0, hv0 e0, em]; exact lg_same
    refine zs_aload_n (pc := 1709) dW_law_1709 rfl ?_
    refine zs_iconst (pc := 1710) dW_law_1710 zi_0 ?_
    refine zs_lald (pc := 1711) dW_law_1711 (by (rw [z2_n (by omega) (by omega)]; exact h31)) (vp_in_nI (by decide) (by decide)) ?_
    refine zs_iload (pc := 1712) dW_law_1712 rfl ?_
    refine zs_i2l (pc := 1714) dW_law_1714 ?_
    refine zs_lcmp (pc := 1715) dW_law_1715 ?_
    refine zs_if_eq (pc := 1716) 1721 dW_law_1716 rfl (fun _ => ?_) (fun h9 => absurd h9 (fun q => q ec))
    refine zs_goto (pc := 1721) 3260 dW_law_1721 rfl ?_
    exact K _ _ _ _ _ _ _ _ (by omega) (by omega) (by omega) (zLI_mk ha hr ht hX1 (fun _ _ => rfl) hM1 h31 h41 hc8 hLb her hfl)
theorem sL_resultAt {Γ : zG} {l : Launch} (hl : l.stackTraces = false) {d mc ms : Nat} (hd : 12 ≤ d) {FN : List Frame → Array Value → State → State → Prop} {x a r t n k ks i B : Nat} {h : zH} {v6 v7 v8 : Option Value} (ha : a = x + 481) (hr : r = a + 10) (ht : t = a + 11) (hB : B + 640 < 2 ^ 20) (hi : i + 4 ≤ zgL Γ) (hZ : zgL Γ < 2 ^ 31) (hk : k + 1 ≤ mc) (hks : ks + 6 ≤ ms) (hLI : zLI x a r t B h) (K : ∀ (h9 : zH) (n9 k9 ks9 B9 : Nat) (w6 w7 w8 : Option Value), k9 ≤ k + 1 → ks9 ≤ ks + 6 → B9 ≤ B + 300 → zLI x a r t B9 h9 → Z Γ l mW_law d mc ms FN 3260 [some (.ref (zgS Γ)), some (.ref x), some (.ref a), some (.ref r), some (.ref t), some (.int (nI i)), w6, w7, w8] [] h9 n9 k9 ks9) : Z Γ l mW_law d mc ms FN 1724 [some (.ref (zgS Γ)), some (.ref x), some (.ref a), some (.ref r), some (.ref t), some (.int (nI i)), v6, v7, v8] [] h n k ks := by
  obtain ⟨g, P, c, sv, er, fl, T, np, L, f0, f1, s8, s16, s17, s18, s19, s20, hX, m0, m1, hM, h3, h4, hc8, hLb, her, hfl⟩ := hLI
  have hI : IG B g := hX.2.2.1
  obtain ⟨⟨st, hst, hx, htr⟩, hXr⟩ := id hX
  refine zs_aload_n (pc := 1724) dW_law_1724 rfl ?_
  refine zs_aload_n (pc := 1725) dW_law_1725 rfl ?_
  refine zs_iload (pc := 1726) dW_law_1726 rfl ?_
  refine zs_iconst (pc := 1728) dW_law_1728 zi_1 ?_
  refine zn_iadd (pc := 1729) dW_law_1729 ?_
  refine zs_sld (pc := 1730) dW_law_1730 (vp_in_nI (by omega) (by omega)) ?_
  refine zs_aload_n (pc := 1731) dW_law_1731 rfl ?_
  refine zs_iload (pc := 1732) dW_law_1732 rfl ?_
  refine zs_iconst (pc := 1734) dW_law_1734 zi_2 ?_
  refine zn_iadd (pc := 1735) dW_law_1735 ?_
  refine zs_sld (pc := 1736) dW_law_1736 (vp_in_nI (by omega) (by omega)) ?_
  refine zs_aload_n (pc := 1737) dW_law_1737 rfl ?_
  refine zs_iload (pc := 1738) dW_law_1738 rfl ?_
  refine zs_iconst (pc := 1740) dW_law_1740 zi_3 ?_
  refine zn_iadd (pc := 1741) dW_law_1741 ?_
  refine zs_sld (pc := 1742) dW_law_1742 (vp_in_nI (by omega) (by omega)) ?_
  refine zs_aload_n (pc := 1743) dW_law_1743 rfl ?_
  refine zcX_5 (pc := 1744) (d2 := d - 1) (s_W_resultAt hl (by omega) hX (by omega) _ _ _ (by omega) h3) dW_law_1744 kW_263 mdW_resultAt msW_resultAt (by decide) (Nat.le_of_ble_eq_true rfl) (by omega) (by omega) (by omega) (fun v h1 n1 hq => ?_) (fun E h1 n1 hq => absurd hq.1 (by intro q; cases q))
  obtain ⟨hv9, hn9, hf9, hX1, f2, h31, hv0⟩ := hq
  obtain rfl := Sum.inl.inj hv9
  have hM1 := MS.sm hM (h1 := h1) (fun q q1 q2 => hf9 q (by omega) (by omega))
  have m01 := (hf9 a (by omega) (by omega)).trans m0
  have m11 := (hf9 (a + 1) (by omega) (by omega)).trans m1
  have h41 := (hf9 t (by omega) (by omega)).trans h4
  rw [← z2_id m01 m11]
  obtain ⟨⟨A2, m2⟩, ⟨S, mS, mS2⟩, ⟨U, m4, mP⟩, m5, m6, m7, m8, ⟨C9, m9⟩⟩ := id hM1
  have hlt : (aResAt g (zgX Γ (nI (i + 1)).toNatClampNeg) (zgX Γ (nI (i + 2)).toNatClampNeg) (zgX Γ (nI (i + 3)).toNatClampNeg)).1 < 3 := by
      unfold aResAt
      (repeat' split) <;> exact Nat.le_of_ble_eq_true rfl
  refine zs_istore (pc := 1747) (ls2 := [_, _, _, _, _, _, _, _, _]) dW_law_1747 (Nat.le_of_ble_eq_true rfl) rfl ?_
  refine zs_aload_n (pc := 1749) dW_law_1749 rfl ?_
  refine zs_aload_n (pc := 1750) dW_law_1750 rfl ?_
  refine zs_iload (pc := 1751) dW_law_1751 rfl ?_
  refine zs_iconst (pc := 1753) dW_law_1753 zi_1 ?_
  refine zn_iadd (pc := 1754) dW_law_1754 ?_
  refine zs_sld (pc := 1755) dW_law_1755 (vp_in_nI (by omega) (by omega)) ?_
  refine zs_aload_n (pc := 1756) dW_law_1756 rfl ?_
  refine zs_iload (pc := 1757) dW_law_1757 rfl ?_
  refine zs_iconst (pc := 1759) dW_law_1759 zi_2 ?_
  refine zn_iadd (pc := 1760) dW_law_1760 ?_
  refine zs_sld (pc := 1761) dW_law_1761 (vp_in_nI (by omega) (by omega)) ?_
  refine zs_aload_n (pc := 1762) dW_law_1762 rfl ?_
  refine zs_iload (pc := 1763) dW_law_1763 rfl ?_
  refine zs_iconst (pc := 1765) dW_law_1765 zi_3 ?_
  refine zn_iadd (pc := 1766) dW_law_1766 ?_
  refine zs_sld (pc := 1767) dW_law_1767 (vp_in_nI (by omega) (by omega)) ?_
  refine zcV1_3 (pc := 1768) (d2 := d - 1) (s_M_resultAt hl (by omega) hI (by omega) _ _ _) dW_law_1768 kW_265 mdM_resultAt miM_resultAt mvM_resultAt rfl (by first | exact z2_a | exact hx) rfl (Nat.le_of_ble_eq_true rfl) (by omega) (by omega) (by omega) ?_
  refine zs_istore (pc := 1771) (ls2 := [_, _, _, _, _, _, _, _, _]) dW_law_1771 (Nat.le_of_ble_eq_true rfl) rfl ?_
  refine zs_aload_n (pc := 1773) dW_law_1773 rfl ?_
  refine zcV1_0 (pc := 1774) (d2 := d - 1) (s_M_thrown hl) dW_law_1774 kW_183 mdM_thrown miM_thrown mvM_thrown rfl (by first | exact z2_a | exact hx) rfl (Nat.le_of_ble_eq_true rfl) (by omega) (by omega) (by omega) ?_
  refine zs_iload (pc := 1777) dW_law_1777 rfl ?_
  refine zs_icmp_eq (pc := 1779) 1784 dW_law_1779 rfl (fun _ => ?_) (fun h9 => absurd h9 (fun q => q rfl))
  refine zs_iload (pc := 1784) dW_law_1784 rfl ?_
  refine zs_if_ne (pc := 1786) 1801 dW_law_1786 rfl (fun hb9 => ?_) (fun hb9 => ?_)
  · refine zs_goto (pc := 1801) 3260 dW_law_1801 rfl ?_
    exact K _ _ _ _ _ _ _ _ (by omega) (by omega) (by omega) (zLI_mk ha hr ht hX1 (fun _ _ => rfl) hM1 h31 h41 hc8 hLb her hfl)
  · have e0 : (aResAt g (zgX Γ (nI (i + 1)).toNatClampNeg) (zgX Γ (nI (i + 2)).toNatClampNeg) (zgX Γ (nI (i + 3)).toNatClampNeg)).1 = 0 := Decidable.byContradiction fun q => nI_ne (by omega) (by decide) q hb9
    have z0 : (nI 0).toNatClampNeg = 0 := by decide
    have em : (aResAt g (zgX Γ (nI (i + 1)).toNatClampNeg) (zgX Γ (nI (i + 2)).toNatClampNeg) (zgX Γ (nI (i + 3)).toNatClampNeg)).2 = (aResAt g (zgX Γ (nI (i + 1)).toNatClampNeg) (zgX Γ (nI (i + 2)).toNatClampNeg) (zgX Γ (nI (i + 3)).toNatClampNeg)).2 := rfl
    have ec : lg_cmp (f2 (nI 0).toNatClampNeg) (aResAt g (zgX Γ (nI (i + 1)).toNatClampNeg) (zgX Γ (nI (i + 2)).toNatClampNeg) (zgX Γ (nI (i + 3)).toNatClampNeg)).2.toInt64 = 0 := by rw [z0, hv0 e0, em]; exact lg_same
    refine zs_aload_n (pc := 1789) dW_law_1789 rfl ?_
    refine zs_iconst (pc := 1790) dW_law_1790 zi_0 ?_
    refine zs_lald (pc := 1791) dW_law_1791 (by (rw [z2_n (by omega) (by omega)]; exact h31)) (vp_in_nI (by decide) (by decide)) ?_
    refine zs_iload (pc := 1792) dW_law_1792 rfl ?_
    refine zs_i2l (pc := 1794) dW_law_1794 ?_
    refine zs_lcmp (pc := 1795) dW_law_1795 ?_
    refine zs_if_eq (pc := 1796) 1801 dW_law_1796 rfl (fun _ => ?_) (fun h9 => absurd h9 (fun q => q ec))
    refine zs_goto (pc := 1801) 3260 dW_law_1801 rfl ?_
    exact K _ _ _ _ _ _ _ _ (by omega) (by omega) (by omega) (zLI_mk ha hr ht hX1 (fun _ _ => rfl) hM1 h31 h41 hc8 hLb her hfl)
theorem sL_scoreOf {Γ : zG} {l : Launch} (hl : l.stackTraces = false) {d mc ms : Nat} (hd : 12 ≤ d) {FN : List Frame → Array Value → State → State → Prop} {x a r t n k ks i B : Nat} {h : zH} {v6 v7 v8 : Option Value} (ha : a = x + 481) (hr : r = a + 10) (ht : t = a + 11) (hB : B + 640 < 2 ^ 20) (hi : i + 4 ≤ zgL Γ) (hZ : zgL Γ < 2 ^ 31) (hk : k + 1 ≤ mc) (hks : ks + 6 ≤ ms) (hLI : zLI x a r t B h) (K : ∀ (h9 : zH) (n9 k9 ks9 B9 : Nat) (w6 w7 w8 : Option Value), k9 ≤ k + 1 → ks9 ≤ ks + 6 → B9 ≤ B + 300 → zLI x a r t B9 h9 → Z Γ l mW_law d mc ms FN 3260 [some (.ref (zgS Γ)), some (.ref x), some (.ref a), some (.ref r), some (.ref t), some (.int (nI i)), w6, w7, w8] [] h9 n9 k9 ks9) : Z Γ l mW_law d mc ms FN 1804 [some (.ref (zgS Γ)), some (.ref x), some (.ref a), some (.ref r), some (.ref t), some (.int (nI i)), v6, v7, v8] [] h n k ks := by
  obtain ⟨g, P, c, sv, er, fl, T, np, L, f0, f1, s8, s16, s17, s18, s19, s20, hX, m0, m1, hM, h3, h4, hc8, hLb, her, hfl⟩ := hLI
  have hI : IG B g := hX.2.2.1
  obtain ⟨⟨st, hst, hx, htr⟩, hXr⟩ := id hX
  refine zs_aload_n (pc := 1804) dW_law_1804 rfl ?_
  refine zs_aload_n (pc := 1805) dW_law_1805 rfl ?_
  refine zs_iload (pc := 1806) dW_law_1806 rfl ?_
  refine zs_iconst (pc := 1808) dW_law_1808 zi_1 ?_
  refine zn_iadd (pc := 1809) dW_law_1809 ?_
  refine zs_sld (pc := 1810) dW_law_1810 (vp_in_nI (by omega) (by omega)) ?_
  refine zs_aload_n (pc := 1811) dW_law_1811 rfl ?_
  refine zs_iload (pc := 1812) dW_law_1812 rfl ?_
  refine zs_iconst (pc := 1814) dW_law_1814 zi_2 ?_
  refine zn_iadd (pc := 1815) dW_law_1815 ?_
  refine zs_sld (pc := 1816) dW_law_1816 (vp_in_nI (by omega) (by omega)) ?_
  refine zs_aload_n (pc := 1817) dW_law_1817 rfl ?_
  refine zs_iload (pc := 1818) dW_law_1818 rfl ?_
  refine zs_iconst (pc := 1820) dW_law_1820 zi_3 ?_
  refine zn_iadd (pc := 1821) dW_law_1821 ?_
  refine zs_sld (pc := 1822) dW_law_1822 (vp_in_nI (by omega) (by omega)) ?_
  refine zs_aload_n (pc := 1823) dW_law_1823 rfl ?_
  refine zcX_5 (pc := 1824) (d2 := d - 1) (s_W_scoreOf hl (by omega) hX (by omega) _ _ _ (by omega) h3) dW_law_1824 kW_266 mdW_scoreOf msW_scoreOf (by decide) (Nat.le_of_ble_eq_true rfl) (by omega) (by omega) (by omega) (fun v h1 n1 hq => ?_) (fun E h1 n1 hq => absurd hq.1 (by intro q; cases q))
  obtain ⟨hv9, hn9, hf9, hX1, f2, h31, hv0⟩ := hq
  obtain rfl := Sum.inl.inj hv9
  have hM1 := MS.sm hM (h1 := h1) (fun q q1 q2 => hf9 q (by omega) (by omega))
  have m01 := (hf9 a (by omega) (by omega)).trans m0
  have m11 := (hf9 (a + 1) (by omega) (by omega)).trans m1
  have h41 := (hf9 t (by omega) (by omega)).trans h4
  rw [← z2_id m01 m11]
  obtain ⟨⟨A2, m2⟩, ⟨S, mS, mS2⟩, ⟨U, m4, mP⟩, m5, m6, m7, m8, ⟨C9, m9⟩⟩ := id hM1
  have hlt : (aScore g (zgX Γ (nI (i + 1)).toNatClampNeg) (zgX Γ (nI (i + 2)).toNatClampNeg) (zgX Γ (nI (i + 3)).toNatClampNeg)).1 < 3 := by
      unfold aScore
      (repeat' split) <;> exact Nat.le_of_ble_eq_true rfl
  refine zs_istore (pc := 1827) (ls2 := [_, _, _, _, _, _, _, _, _]) dW_law_1827 (Nat.le_of_ble_eq_true rfl) rfl ?_
  refine zs_aload_n (pc := 1829) dW_law_1829 rfl ?_
  refine zs_aload_n (pc := 1830) dW_law_1830 rfl ?_
  refine zs_iload (pc := 1831) dW_law_1831 rfl ?_
  refine zs_iconst (pc := 1833) dW_law_1833 zi_1 ?_
  refine zn_iadd (pc := 1834) dW_law_1834 ?_
  refine zs_sld (pc := 1835) dW_law_1835 (vp_in_nI (by omega) (by omega)) ?_
  refine zs_aload_n (pc := 1836) dW_law_1836 rfl ?_
  refine zs_iload (pc := 1837) dW_law_1837 rfl ?_
  refine zs_iconst (pc := 1839) dW_law_1839 zi_2 ?_
  refine zn_iadd (pc := 1840) dW_law_1840 ?_
  refine zs_sld (pc := 1841) dW_law_1841 (vp_in_nI (by omega) (by omega)) ?_
  refine zs_aload_n (pc := 1842) dW_law_1842 rfl ?_
  refine zs_iload (pc := 1843) dW_law_1843 rfl ?_
  refine zs_iconst (pc := 1845) dW_law_1845 zi_3 ?_
  refine zn_iadd (pc := 1846) dW_law_1846 ?_
  refine zs_sld (pc := 1847) dW_law_1847 (vp_in_nI (by omega) (by omega)) ?_
  refine zcV1_3 (pc := 1848) (d2 := d - 1) (s_M_scoreOf hl (by omega) hI _ _ _) dW_law_1848 kW_268 mdM_scoreOf miM_scoreOf mvM_scoreOf rfl (by first | exact z2_a | exact hx) rfl (Nat.le_of_ble_eq_true rfl) (by omega) (by omega) (by omega) ?_
  refine zs_istore (pc := 1851) (ls2 := [_, _, _, _, _, _, _, _, _]) dW_law_1851 (Nat.le_of_ble_eq_true rfl) rfl ?_
  refine zs_aload_n (pc := 1853) dW_law_1853 rfl ?_
  refine zcV1_0 (pc := 1854) (d2 := d - 1) (s_M_thrown hl) dW_law_1854 kW_183 mdM_thrown miM_thrown mvM_thrown rfl (by first | exact z2_a | exact hx) rfl (Nat.le_of_ble_eq_true rfl) (by omega) (by omega) (by omega) ?_
  refine zs_iload (pc := 1857) dW_law_1857 rfl ?_
  refine zs_icmp_eq (pc := 1859) 1864 dW_law_1859 rfl (fun _ => ?_) (fun h9 => absurd h9 (fun q => q rfl))
  refine zs_iload (pc := 1864) dW_law_1864 rfl ?_
  refine zs_if_ne (pc := 1866) 1881 dW_law_1866 rfl (fun hb9 => ?_) (fun hb9 => ?_)
  · refine zs_goto (pc := 1881) 3260 dW_law_1881 rfl ?_
    exact K _ _ _ _ _ _ _ _ (by omega) (by omega) (by omega) (zLI_mk ha hr ht hX1 (fun _ _ => rfl) hM1 h31 h41 hc8 hLb her hfl)
  · have e0 : (aScore g (zgX Γ (nI (i + 1)).toNatClampNeg) (zgX Γ (nI (i + 2)).toNatClampNeg) (zgX Γ (nI (i + 3)).toNatClampNeg)).1 = 0 := Decidable.byContradiction fun q => nI_ne (by omega) (by decide) q hb9
    have z0 : (nI 0).toNatClampNeg = 0 := by decide
    have em : (aScore g (zgX Γ (nI (i + 1)).toNatClampNeg) (zgX Γ (nI (i + 2)).toNatClampNeg) (zgX Γ (nI (i + 3)).toNatClampNeg)).2 = (aScore g (zgX Γ (nI (i + 1)).toNatClampNeg) (zgX Γ (nI (i + 2)).toNatClampNeg) (zgX Γ (nI (i + 3)).toNatClampNeg)).2 := rfl
    have ec : lg_cmp (f2 (nI 0).toNatClampNeg) (aScore g (zgX Γ (nI (i + 1)).toNatClampNeg) (zgX Γ (nI (i + 2)).toNatClampNeg) (zgX Γ (nI (i + 3)).toNatClampNeg)).2.toInt64 = 0 := by rw [z0, hv0 e0, em]; exact lg_same
    refine zs_aload_n (pc := 1869) dW_law_1869 rfl ?_
    refine zs_iconst (pc := 1870) dW_law_1870 zi_0 ?_
    refine zs_lald (pc := 1871) dW_law_1871 (by (rw [z2_n (by omega) (by omega)]; exact h31)) (vp_in_nI (by decide) (by decide)) ?_
    refine zs_iload (pc := 1872) dW_law_1872 rfl ?_
    refine zs_i2l (pc := 1874) dW_law_1874 ?_
    refine zs_lcmp (pc := 1875) dW_law_1875 ?_
    refine zs_if_eq (pc := 1876) 1881 dW_law_1876 rfl (fun _ => ?_) (fun h9 => absurd h9 (fun q => q ec))
    refine zs_goto (pc := 1881) 3260 dW_law_1881 rfl ?_
    exact K _ _ _ _ _ _ _ _ (by omega) (by omega) (by omega) (zLI_mk ha hr ht hX1 (fun _ _ => rfl) hM1 h31 h41 hc8 hLb her hfl)
theorem sL_codesWith {Γ : zG} {l : Launch} (hl : l.stackTraces = false) {d mc ms : Nat} (hd : 12 ≤ d) {FN : List Frame → Array Value → State → State → Prop} {x a r t n k ks i B : Nat} {h : zH} {v6 v7 v8 : Option Value} (ha : a = x + 481) (hr : r = a + 10) (ht : t = a + 11) (hB : B + 640 < 2 ^ 20) (hi : i + 4 ≤ zgL Γ) (hZ : zgL Γ < 2 ^ 31) (hk : k + 1 ≤ mc) (hks : ks + 6 ≤ ms) (hLI : zLI x a r t B h) (K : ∀ (h9 : zH) (n9 k9 ks9 B9 : Nat) (w6 w7 w8 : Option Value), k9 ≤ k + 1 → ks9 ≤ ks + 6 → B9 ≤ B + 300 → zLI x a r t B9 h9 → Z Γ l mW_law d mc ms FN 3260 [some (.ref (zgS Γ)), some (.ref x), some (.ref a), some (.ref r), some (.ref t), some (.int (nI i)), w6, w7, w8] [] h9 n9 k9 ks9) : Z Γ l mW_law d mc ms FN 1884 [some (.ref (zgS Γ)), some (.ref x), some (.ref a), some (.ref r), some (.ref t), some (.int (nI i)), v6, v7, v8] [] h n k ks := by
  obtain ⟨g, P, c, sv, er, fl, T, np, L, f0, f1, s8, s16, s17, s18, s19, s20, hX, m0, m1, hM, h3, h4, hc8, hLb, her, hfl⟩ := hLI
  have hI : IG B g := hX.2.2.1
  obtain ⟨⟨st, hst, hx, htr⟩, hXr⟩ := id hX
  refine zs_aload_n (pc := 1884) dW_law_1884 rfl ?_
  refine zs_aload_n (pc := 1885) dW_law_1885 rfl ?_
  refine zs_iload (pc := 1886) dW_law_1886 rfl ?_
  refine zs_iconst (pc := 1888) dW_law_1888 zi_1 ?_
  refine zn_iadd (pc := 1889) dW_law_1889 ?_
  refine zs_sld (pc := 1890) dW_law_1890 (vp_in_nI (by omega) (by omega)) ?_
  refine zs_aload_n (pc := 1891) dW_law_1891 rfl ?_
  refine zs_iload (pc := 1892) dW_law_1892 rfl ?_
  refine zs_iconst (pc := 1894) dW_law_1894 zi_2 ?_
  refine zn_iadd (pc := 1895) dW_law_1895 ?_
  refine zs_sld (pc := 1896) dW_law_1896 (vp_in_nI (by omega) (by omega)) ?_
  refine zs_aload_n (pc := 1897) dW_law_1897 rfl ?_
  refine zcX_4 (pc := 1898) (d2 := d - 1) (s_W_codesWith hl (by omega) hX (by omega) _ _ (by omega) h3) dW_law_1898 kW_269 mdW_codesWith msW_codesWith (by decide) (Nat.le_of_ble_eq_true rfl) (by omega) (by omega) (by omega) (fun v h1 n1 hq => ?_) (fun E h1 n1 hq => absurd hq.1 (by intro q; cases q))
  obtain ⟨hv9, hn9, hf9, hX1, f2, h31, hv0⟩ := hq
  obtain rfl := Sum.inl.inj hv9
  have hM1 := MS.sm hM (h1 := h1) (fun q q1 q2 => hf9 q (by omega) (by omega))
  have m01 := (hf9 a (by omega) (by omega)).trans m0
  have m11 := (hf9 (a + 1) (by omega) (by omega)).trans m1
  have h41 := (hf9 t (by omega) (by omega)).trans h4
  rw [← z2_id m01 m11]
  obtain ⟨⟨A2, m2⟩, ⟨S, mS, mS2⟩, ⟨U, m4, mP⟩, m5, m6, m7, m8, ⟨C9, m9⟩⟩ := id hM1
  have hlt : (aCods g (zgX Γ (nI (i + 1)).toNatClampNeg) (zgX Γ (nI (i + 2)).toNatClampNeg)).1 < 2 := by
      unfold aCods
      (repeat' split) <;> exact Nat.le_of_ble_eq_true rfl
  refine zs_istore (pc := 1901) (ls2 := [_, _, _, _, _, _, _, _, _]) dW_law_1901 (Nat.le_of_ble_eq_true rfl) rfl ?_
  refine zs_aload_n (pc := 1903) dW_law_1903 rfl ?_
  refine zs_aload_n (pc := 1904) dW_law_1904 rfl ?_
  refine zs_iload (pc := 1905) dW_law_1905 rfl ?_
  refine zs_iconst (pc := 1907) dW_law_1907 zi_1 ?_
  refine zn_iadd (pc := 1908) dW_law_1908 ?_
  refine zs_sld (pc := 1909) dW_law_1909 (vp_in_nI (by omega) (by omega)) ?_
  refine zs_aload_n (pc := 1910) dW_law_1910 rfl ?_
  refine zs_iload (pc := 1911) dW_law_1911 rfl ?_
  refine zs_iconst (pc := 1913) dW_law_1913 zi_2 ?_
  refine zn_iadd (pc := 1914) dW_law_1914 ?_
  refine zs_sld (pc := 1915) dW_law_1915 (vp_in_nI (by omega) (by omega)) ?_
  refine zcV1_2 (pc := 1916) (d2 := d - 1) (s_M_codesWith hl (by omega) hI _ _) dW_law_1916 kW_271 mdM_codesWith miM_codesWith mvM_codesWith rfl (by first | exact z2_a | exact hx) rfl (Nat.le_of_ble_eq_true rfl) (by omega) (by omega) (by omega) ?_
  refine zs_istore (pc := 1919) (ls2 := [_, _, _, _, _, _, _, _, _]) dW_law_1919 (Nat.le_of_ble_eq_true rfl) rfl ?_
  refine zs_aload_n (pc := 1921) dW_law_1921 rfl ?_
  refine zcV1_0 (pc := 1922) (d2 := d - 1) (s_M_thrown hl) dW_law_1922 kW_183 mdM_thrown miM_thrown mvM_thrown rfl (by first | exact z2_a | exact hx) rfl (Nat.le_of_ble_eq_true rfl) (by omega) (by omega) (by omega) ?_
  refine zs_iload (pc := 1925) dW_law_1925 rfl ?_
  refine zs_icmp_eq (pc := 1927) 1932 dW_law_1927 rfl (fun _ => ?_) (fun h9 => absurd h9 (fun q => q rfl))
  refine zs_iload (pc := 1932) dW_law_1932 rfl ?_
  refine zs_if_ne (pc := 1934) 1949 dW_law_1934 rfl (fun hb9 => ?_) (fun hb9 => ?_)
  · refine zs_goto (pc := 1949) 3260 dW_law_1949 rfl ?_
    exact K _ _ _ _ _ _ _ _ (by omega) (by omega) (by omega) (zLI_mk ha hr ht hX1 (fun _ _ => rfl) hM1 h31 h41 hc8 hLb her hfl)
  · have e0 : (aCods g (zgX Γ (nI (i + 1)).toNatClampNeg) (zgX Γ (nI (i + 2)).toNatClampNeg)).1 = 0 := Decidable.byContradiction fun q => nI_ne (by omega) (by decide) q hb9
    have z0 : (nI 0).toNatClampNeg = 0 := by decide
    have em : (aCods g (zgX Γ (nI (i + 1)).toNatClampNeg) (zgX Γ (nI (i + 2)).toNatClampNeg)).2 = (aCods g (zgX Γ (nI (i + 1)).toNatClampNeg) (zgX Γ (nI (i + 2)).toNatClampNeg)).2 := rfl
    have ec : lg_cmp (f2 (nI 0).toNatClampNeg) (aCods g (zgX Γ (nI (i + 1)).toNatClampNeg) (zgX Γ (nI (i + 2)).toNatClampNeg)).2.toInt64 = 0 := by rw [z0, hv0 e0, em]; exact lg_same
    refine zs_aload_n (pc := 1937) dW_law_1937 rfl ?_
    refine zs_iconst (pc := 1938) dW_law_1938 zi_0 ?_
    refine zs_lald (pc := 1939) dW_law_1939 (by (rw [z2_n (by omega) (by omega)]; exact h31)) (vp_in_nI (by decide) (by decide)) ?_
    refine zs_iload (pc := 1940) dW_law_1940 rfl ?_
    refine zs_i2l (pc := 1942) dW_law_1942 ?_
    refine zs_lcmp (pc := 1943) dW_law_1943 ?_
    refine zs_if_eq (pc := 1944) 1949 dW_law_1944 rfl (fun _ => ?_) (fun h9 => absurd h9 (fun q => q ec))
    refine zs_goto (pc := 1949) 3260 dW_law_1949 rfl ?_
    exact K _ _ _ _ _ _ _ _ (by omega) (by omega) (by omega) (zLI_mk ha hr ht hX1 (fun _ _ => rfl) hM1 h31 h41 hc8 hLb her hfl)
theorem sL_nextDigits {Γ : zG} {l : Launch} (hl : l.stackTraces = false) {d mc ms : Nat} (hd : 12 ≤ d) {FN : List Frame → Array Value → State → State → Prop} {x a r t n k ks i B : Nat} {h : zH} {v6 v7 v8 : Option Value} (ha : a = x + 481) (hr : r = a + 10) (ht : t = a + 11) (hB : B + 640 < 2 ^ 20) (hi : i + 4 ≤ zgL Γ) (hZ : zgL Γ < 2 ^ 31) (hk : k + 1 ≤ mc) (hks : ks + 6 ≤ ms) (hLI : zLI x a r t B h) (K : ∀ (h9 : zH) (n9 k9 ks9 B9 : Nat) (w6 w7 w8 : Option Value), k9 ≤ k + 1 → ks9 ≤ ks + 6 → B9 ≤ B + 300 → zLI x a r t B9 h9 → Z Γ l mW_law d mc ms FN 3260 [some (.ref (zgS Γ)), some (.ref x), some (.ref a), some (.ref r), some (.ref t), some (.int (nI i)), w6, w7, w8] [] h9 n9 k9 ks9) : Z Γ l mW_law d mc ms FN 1952 [some (.ref (zgS Γ)), some (.ref x), some (.ref a), some (.ref r), some (.ref t), some (.int (nI i)), v6, v7, v8] [] h n k ks := by
  obtain ⟨g, P, c, sv, er, fl, T, np, L, f0, f1, s8, s16, s17, s18, s19, s20, hX, m0, m1, hM, h3, h4, hc8, hLb, her, hfl⟩ := hLI
  have hI : IG B g := hX.2.2.1
  obtain ⟨⟨st, hst, hx, htr⟩, hXr⟩ := id hX
  refine zs_aload_n (pc := 1952) dW_law_1952 rfl ?_
  refine zs_aload_n (pc := 1953) dW_law_1953 rfl ?_
  refine zs_iload (pc := 1954) dW_law_1954 rfl ?_
  refine zs_iconst (pc := 1956) dW_law_1956 zi_1 ?_
  refine zn_iadd (pc := 1957) dW_law_1957 ?_
  refine zs_sld (pc := 1958) dW_law_1958 (vp_in_nI (by omega) (by omega)) ?_
  refine zs_aload_n (pc := 1959) dW_law_1959 rfl ?_
  refine zs_iload (pc := 1960) dW_law_1960 rfl ?_
  refine zs_iconst (pc := 1962) dW_law_1962 zi_2 ?_
  refine zn_iadd (pc := 1963) dW_law_1963 ?_
  refine zs_sld (pc := 1964) dW_law_1964 (vp_in_nI (by omega) (by omega)) ?_
  refine zs_aload_n (pc := 1965) dW_law_1965 rfl ?_
  refine zcX_4 (pc := 1966) (d2 := d - 1) (s_W_nextDigits hl (by omega) hX (by omega) _ _ (by omega) h3) dW_law_1966 kW_272 mdW_nextDigits msW_nextDigits (by decide) (Nat.le_of_ble_eq_true rfl) (by omega) (by omega) (by omega) (fun v h1 n1 hq => ?_) (fun E h1 n1 hq => absurd hq.1 (by intro q; cases q))
  obtain ⟨hv9, hn9, hf9, hX1, f2, h31, hv0⟩ := hq
  obtain rfl := Sum.inl.inj hv9
  have hM1 := MS.sm hM (h1 := h1) (fun q q1 q2 => hf9 q (by omega) (by omega))
  have m01 := (hf9 a (by omega) (by omega)).trans m0
  have m11 := (hf9 (a + 1) (by omega) (by omega)).trans m1
  have h41 := (hf9 t (by omega) (by omega)).trans h4
  rw [← z2_id m01 m11]
  obtain ⟨⟨A2, m2⟩, ⟨S, mS, mS2⟩, ⟨U, m4, mP⟩, m5, m6, m7, m8, ⟨C9, m9⟩⟩ := id hM1
  have hlt : (aNext g (zgX Γ (nI (i + 1)).toNatClampNeg) (zgX Γ (nI (i + 2)).toNatClampNeg)).1 < 2 := by
      unfold aNext
      (repeat' split) <;> exact Nat.le_of_ble_eq_true rfl
  refine zs_istore (pc := 1969) (ls2 := [_, _, _, _, _, _, _, _, _]) dW_law_1969 (Nat.le_of_ble_eq_true rfl) rfl ?_
  refine zs_aload_n (pc := 1971) dW_law_1971 rfl ?_
  refine zs_aload_n (pc := 1972) dW_law_1972 rfl ?_
  refine zs_iload (pc := 1973) dW_law_1973 rfl ?_
  refine zs_iconst (pc := 1975) dW_law_1975 zi_1 ?_
  refine zn_iadd (pc := 1976) dW_law_1976 ?_
  refine zs_sld (pc := 1977) dW_law_1977 (vp_in_nI (by omega) (by omega)) ?_
  refine zs_aload_n (pc := 1978) dW_law_1978 rfl ?_
  refine zs_iload (pc := 1979) dW_law_1979 rfl ?_
  refine zs_iconst (pc := 1981) dW_law_1981 zi_2 ?_
  refine zn_iadd (pc := 1982) dW_law_1982 ?_
  refine zs_sld (pc := 1983) dW_law_1983 (vp_in_nI (by omega) (by omega)) ?_
  refine zcV1_2 (pc := 1984) (d2 := d - 1) (s_M_nextDigits hl (by omega) hI _ _) dW_law_1984 kW_274 mdM_nextDigits miM_nextDigits mvM_nextDigits rfl (by first | exact z2_a | exact hx) rfl (Nat.le_of_ble_eq_true rfl) (by omega) (by omega) (by omega) ?_
  refine zs_istore (pc := 1987) (ls2 := [_, _, _, _, _, _, _, _, _]) dW_law_1987 (Nat.le_of_ble_eq_true rfl) rfl ?_
  refine zs_aload_n (pc := 1989) dW_law_1989 rfl ?_
  refine zcV1_0 (pc := 1990) (d2 := d - 1) (s_M_thrown hl) dW_law_1990 kW_183 mdM_thrown miM_thrown mvM_thrown rfl (by first | exact z2_a | exact hx) rfl (Nat.le_of_ble_eq_true rfl) (by omega) (by omega) (by omega) ?_
  refine zs_iload (pc := 1993) dW_law_1993 rfl ?_
  refine zs_icmp_eq (pc := 1995) 2000 dW_law_1995 rfl (fun _ => ?_) (fun h9 => absurd h9 (fun q => q rfl))
  refine zs_iload (pc := 2000) dW_law_2000 rfl ?_
  refine zs_if_ne (pc := 2002) 2017 dW_law_2002 rfl (fun hb9 => ?_) (fun hb9 => ?_)
  · refine zs_goto (pc := 2017) 3260 dW_law_2017 rfl ?_
    exact K _ _ _ _ _ _ _ _ (by omega) (by omega) (by omega) (zLI_mk ha hr ht hX1 (fun _ _ => rfl) hM1 h31 h41 hc8 hLb her hfl)
  · have e0 : (aNext g (zgX Γ (nI (i + 1)).toNatClampNeg) (zgX Γ (nI (i + 2)).toNatClampNeg)).1 = 0 := Decidable.byContradiction fun q => nI_ne (by omega) (by decide) q hb9
    have z0 : (nI 0).toNatClampNeg = 0 := by decide
    have em : (aNext g (zgX Γ (nI (i + 1)).toNatClampNeg) (zgX Γ (nI (i + 2)).toNatClampNeg)).2 = (aNext g (zgX Γ (nI (i + 1)).toNatClampNeg) (zgX Γ (nI (i + 2)).toNatClampNeg)).2 := rfl
    have ec : lg_cmp (f2 (nI 0).toNatClampNeg) (aNext g (zgX Γ (nI (i + 1)).toNatClampNeg) (zgX Γ (nI (i + 2)).toNatClampNeg)).2.toInt64 = 0 := by rw [z0, hv0 e0, em]; exact lg_same
    refine zs_aload_n (pc := 2005) dW_law_2005 rfl ?_
    refine zs_iconst (pc := 2006) dW_law_2006 zi_0 ?_
    refine zs_lald (pc := 2007) dW_law_2007 (by (rw [z2_n (by omega) (by omega)]; exact h31)) (vp_in_nI (by decide) (by decide)) ?_
    refine zs_iload (pc := 2008) dW_law_2008 rfl ?_
    refine zs_i2l (pc := 2010) dW_law_2010 ?_
    refine zs_lcmp (pc := 2011) dW_law_2011 ?_
    refine zs_if_eq (pc := 2012) 2017 dW_law_2012 rfl (fun _ => ?_) (fun h9 => absurd h9 (fun q => q ec))
    refine zs_goto (pc := 2017) 3260 dW_law_2017 rfl ?_
    exact K _ _ _ _ _ _ _ _ (by omega) (by omega) (by omega) (zLI_mk ha hr ht hX1 (fun _ _ => rfl) hM1 h31 h41 hc8 hLb her hfl)
theorem sL_sharedDigits {Γ : zG} {l : Launch} (hl : l.stackTraces = false) {d mc ms : Nat} (hd : 12 ≤ d) {FN : List Frame → Array Value → State → State → Prop} {x a r t n k ks i B : Nat} {h : zH} {v6 v7 v8 : Option Value} (ha : a = x + 481) (hr : r = a + 10) (ht : t = a + 11) (hB : B + 640 < 2 ^ 20) (hi : i + 4 ≤ zgL Γ) (hZ : zgL Γ < 2 ^ 31) (hk : k + 1 ≤ mc) (hks : ks + 6 ≤ ms) (hLI : zLI x a r t B h) (K : ∀ (h9 : zH) (n9 k9 ks9 B9 : Nat) (w6 w7 w8 : Option Value), k9 ≤ k + 1 → ks9 ≤ ks + 6 → B9 ≤ B + 300 → zLI x a r t B9 h9 → Z Γ l mW_law d mc ms FN 3260 [some (.ref (zgS Γ)), some (.ref x), some (.ref a), some (.ref r), some (.ref t), some (.int (nI i)), w6, w7, w8] [] h9 n9 k9 ks9) : Z Γ l mW_law d mc ms FN 2020 [some (.ref (zgS Γ)), some (.ref x), some (.ref a), some (.ref r), some (.ref t), some (.int (nI i)), v6, v7, v8] [] h n k ks := by
  obtain ⟨g, P, c, sv, er, fl, T, np, L, f0, f1, s8, s16, s17, s18, s19, s20, hX, m0, m1, hM, h3, h4, hc8, hLb, her, hfl⟩ := hLI
  have hI : IG B g := hX.2.2.1
  obtain ⟨⟨st, hst, hx, htr⟩, hXr⟩ := id hX
  refine zs_aload_n (pc := 2020) dW_law_2020 rfl ?_
  refine zs_aload_n (pc := 2021) dW_law_2021 rfl ?_
  refine zs_iload (pc := 2022) dW_law_2022 rfl ?_
  refine zs_iconst (pc := 2024) dW_law_2024 zi_1 ?_
  refine zn_iadd (pc := 2025) dW_law_2025 ?_
  refine zs_sld (pc := 2026) dW_law_2026 (vp_in_nI (by omega) (by omega)) ?_
  refine zs_aload_n (pc := 2027) dW_law_2027 rfl ?_
  refine zcX_3 (pc := 2028) (d2 := d - 1) (s_W_sharedDigits hl (by omega) hX (by omega) _ (by omega) h3) dW_law_2028 kW_275 mdW_sharedDigits msW_sharedDigits (by decide) (Nat.le_of_ble_eq_true rfl) (by omega) (by omega) (by omega) (fun v h1 n1 hq => ?_) (fun E h1 n1 hq => absurd hq.1 (by intro q; cases q))
  obtain ⟨hv9, hn9, hf9, hX1, f2, h31, hv0⟩ := hq
  obtain rfl := Sum.inl.inj hv9
  have hM1 := MS.sm hM (h1 := h1) (fun q q1 q2 => hf9 q (by omega) (by omega))
  have m01 := (hf9 a (by omega) (by omega)).trans m0
  have m11 := (hf9 (a + 1) (by omega) (by omega)).trans m1
  have h41 := (hf9 t (by omega) (by omega)).trans h4
  rw [← z2_id m01 m11]
  obtain ⟨⟨A2, m2⟩, ⟨S, mS, mS2⟩, ⟨U, m4, mP⟩, m5, m6, m7, m8, ⟨C9, m9⟩⟩ := id hM1
  have hlt : (aDep g (zgX Γ (nI (i + 1)).toNatClampNeg)).1 < 2 := by
      unfold aDep
      (repeat' split) <;> exact Nat.le_of_ble_eq_true rfl
  refine zs_istore (pc := 2031) (ls2 := [_, _, _, _, _, _, _, _, _]) dW_law_2031 (Nat.le_of_ble_eq_true rfl) rfl ?_
  refine zs_aload_n (pc := 2033) dW_law_2033 rfl ?_
  refine zs_aload_n (pc := 2034) dW_law_2034 rfl ?_
  refine zs_iload (pc := 2035) dW_law_2035 rfl ?_
  refine zs_iconst (pc := 2037) dW_law_2037 zi_1 ?_
  refine zn_iadd (pc := 2038) dW_law_2038 ?_
  refine zs_sld (pc := 2039) dW_law_2039 (vp_in_nI (by omega) (by omega)) ?_
  refine zcV1_1 (pc := 2040) (d2 := d - 1) (s_M_sharedDigits hl (by omega) hI _) dW_law_2040 kW_277 mdM_sharedDigits miM_sharedDigits mvM_sharedDigits rfl (by first | exact z2_a | exact hx) rfl (Nat.le_of_ble_eq_true rfl) (by omega) (by omega) (by omega) ?_
  refine zs_istore (pc := 2043) (ls2 := [_, _, _, _, _, _, _, _, _]) dW_law_2043 (Nat.le_of_ble_eq_true rfl) rfl ?_
  refine zs_aload_n (pc := 2045) dW_law_2045 rfl ?_
  refine zcV1_0 (pc := 2046) (d2 := d - 1) (s_M_thrown hl) dW_law_2046 kW_183 mdM_thrown miM_thrown mvM_thrown rfl (by first | exact z2_a | exact hx) rfl (Nat.le_of_ble_eq_true rfl) (by omega) (by omega) (by omega) ?_
  refine zs_iload (pc := 2049) dW_law_2049 rfl ?_
  refine zs_icmp_eq (pc := 2051) 2056 dW_law_2051 rfl (fun _ => ?_) (fun h9 => absurd h9 (fun q => q rfl))
  refine zs_iload (pc := 2056) dW_law_2056 rfl ?_
  refine zs_if_ne (pc := 2058) 2073 dW_law_2058 rfl (fun hb9 => ?_) (fun hb9 => ?_)
  · refine zs_goto (pc := 2073) 3260 dW_law_2073 rfl ?_
    exact K _ _ _ _ _ _ _ _ (by omega) (by omega) (by omega) (zLI_mk ha hr ht hX1 (fun _ _ => rfl) hM1 h31 h41 hc8 hLb her hfl)
  · have e0 : (aDep g (zgX Γ (nI (i + 1)).toNatClampNeg)).1 = 0 := Decidable.byContradiction fun q => nI_ne (by omega) (by decide) q hb9
    have z0 : (nI 0).toNatClampNeg = 0 := by decide
    have em : (aDep g (zgX Γ (nI (i + 1)).toNatClampNeg)).2 = (aDep g (zgX Γ (nI (i + 1)).toNatClampNeg)).2 := rfl
    have ec : lg_cmp (f2 (nI 0).toNatClampNeg) (aDep g (zgX Γ (nI (i + 1)).toNatClampNeg)).2.toInt64 = 0 := by rw [z0, hv0 e0, em]; exact lg_same
    refine zs_aload_n (pc := 2061) dW_law_2061 rfl ?_
    refine zs_iconst (pc := 2062) dW_law_2062 zi_0 ?_
    refine zs_lald (pc := 2063) dW_law_2063 (by (rw [z2_n (by omega) (by omega)]; exact h31)) (vp_in_nI (by decide) (by decide)) ?_
    refine zs_iload (pc := 2064) dW_law_2064 rfl ?_
    refine zs_i2l (pc := 2066) dW_law_2066 ?_
    refine zs_lcmp (pc := 2067) dW_law_2067 ?_
    refine zs_if_eq (pc := 2068) 2073 dW_law_2068 rfl (fun _ => ?_) (fun h9 => absurd h9 (fun q => q ec))
    refine zs_goto (pc := 2073) 3260 dW_law_2073 rfl ?_
    exact K _ _ _ _ _ _ _ _ (by omega) (by omega) (by omega) (zLI_mk ha hr ht hX1 (fun _ _ => rfl) hM1 h31 h41 hc8 hLb her hfl)

