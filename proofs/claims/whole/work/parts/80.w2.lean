/-! the wrappers, on -/
theorem s_W_scoreOf {Γ : zG} {l : Launch} (hl : l.stackTraces = false) {d : Nat} (hd : 10 ≤ d) {h : zH} {n : Nat} {B x c np : Nat} {g T : Nat → Nat} {P : Nat → Nat → Nat} {sv : Option (Nat → Nat)} {er fl : Option Nat} {L : List Nat} (hX : XR B h x g P c sv er fl T np L) (hB : B < 2 ^ 20)         (y z w : Int32) {r : Nat} {f0 : Nat → Int64} (hr : r < x ∨ x + 481 ≤ r) (h3 : h r = some (.inl (4, 1, .inr (.inl f0)))) : zC Γ l d mW_scoreOf [.ref x, .int y, .int z, .int w, .ref r] h n 1 6 (zWq x r n h (aScore g y z w).1 (((aScore g y z w)).2).toInt64 (fun h1 => XR B h1 x g P c sv er fl T np L)) := by
  have hX9 := hX
  obtain ⟨⟨st, hst, hx, htr⟩, -⟩ := hX
  refine zC_ofX (ls := [some (.ref x), some (.int y), some (.int z), some (.int w), some (.ref r), none]) hl (by decide +kernel) (by decide) (Nat.le_of_ble_eq_true rfl) rfl ?_
  refine zs_aload (pc := 0) dW_scoreOf_0 rfl ?_
  refine zs_iconst (pc := 2) dW_scoreOf_2 zi_0 ?_
  refine zs_aload_n (pc := 3) dW_scoreOf_3 rfl ?_
  refine zs_iload_n (pc := 4) dW_scoreOf_4 rfl ?_
  refine zs_iload_n (pc := 5) dW_scoreOf_5 rfl ?_
  refine zs_iload_n (pc := 6) dW_scoreOf_6 rfl ?_
  refine zcVR_3 (pc := 7) (d2 := d - 1) (s_X_scoreOf hl (by omega) hX9 hB y z w) dW_scoreOf_7 kW_95 mdX_scoreOf miX_scoreOf mvX_scoreOf rfl (by exact hx) rfl (Nat.le_of_ble_eq_true rfl) (by omega) (by omega) (by omega) (fun v h1 n1 hq => ?_) (fun E h1 n1 hq => ?_)
  · obtain ⟨o1, rfl, rfl⟩ := hq.1.l
    have o1 : (aScore g y z w).1 = 0 := o1
    refine zs_i2l (pc := 10) dW_scoreOf_10 ?_
    refine zs_last (pc := 11) dW_scoreOf_11 (by exact (hq.2.1 r hr).trans h3) (vp_in_nI (by decide) (by decide)) ?_
    refine zs_goto (pc := 12) 23 dW_scoreOf_12 rfl ?_
    refine zs_iconst (pc := 23) dW_scoreOf_23 zi_0 ?_
    exact zs_iret (pc := 24) dW_scoreOf_24 rfl rfl (by omega) (by omega) (⟨by rw [o1], Nat.le_refl _, fun q q1 q2 => (zu_n q2).trans (hq.2.1 q q1), XR.sm hq.2.2 (fun q g1 g2 => zu_n (by omega)), _, zu_s, fun _ => if_pos (by decide)⟩)
  · obtain ⟨o1, oE, o3⟩ := hq.1.r
    have o1 : (aScore g y z w).1 ≠ 0 := o1
    have hlt : (aScore g y z w).1 < 3 := by
        unfold aScore
        (repeat' split) <;> exact Nat.le_of_ble_eq_true rfl
    have ha : (aScore g y z w).1 = 1 ∨ (aScore g y z w).1 = 2 := by omega
    rcases ha with ha | ha
    · obtain rfl : E = sNS := oE.trans (congrArg (fun k => List.getD ["", sNS, sIA] k "") ha)
      refine zx_catch (pc := 7) [] (0, 12, 15, 21) [(0, 12, 19, 13)] rfl (fun z hz => by cases hz) rfl (by decide) kcW_21 (zt2 (i := 238) rfl) (fun q => ?_)
      refine zs_astore (pc := 15) (ls2 := [_, _, _, _, _, _]) dW_scoreOf_15 (Nat.le_of_ble_eq_true rfl) rfl ?_
      refine zs_iconst (pc := 17) dW_scoreOf_17 zi_1 ?_
      exact zs_iret (pc := 18) dW_scoreOf_18 rfl rfl (by omega) (by omega) (⟨by rw [ha], o3, fun q q1 q2 => hq.2.1 q q1, hq.2.2, f0, (hq.2.1 r hr).trans h3, fun q => absurd q o1⟩)
    · obtain rfl : E = sIA := oE.trans (congrArg (fun k => List.getD ["", sNS, sIA] k "") ha)
      refine zx_catch (pc := 7) [(0, 12, 15, 21)] (0, 12, 19, 13) [] rfl (by
          intro z hz
          rcases List.mem_cons.mp hz with rfl | hz
          · exact ⟨by decide, "java/util/NoSuchElementException", kcW_21, by decide +kernel⟩
          cases hz) rfl (by decide) kcW_13 (zt2 (i := 77) rfl) (fun q => ?_)
      refine zs_astore (pc := 19) (ls2 := [_, _, _, _, _, _]) dW_scoreOf_19 (Nat.le_of_ble_eq_true rfl) rfl ?_
      refine zs_iconst (pc := 21) dW_scoreOf_21 zi_2 ?_
      exact zs_iret (pc := 22) dW_scoreOf_22 rfl rfl (by omega) (by omega) (⟨by rw [ha], o3, fun q q1 q2 => hq.2.1 q q1, hq.2.2, f0, (hq.2.1 r hr).trans h3, fun q => absurd q o1⟩)
theorem s_W_codesWith {Γ : zG} {l : Launch} (hl : l.stackTraces = false) {d : Nat} (hd : 10 ≤ d) {h : zH} {n : Nat} {B x c np : Nat} {g T : Nat → Nat} {P : Nat → Nat → Nat} {sv : Option (Nat → Nat)} {er fl : Option Nat} {L : List Nat} (hX : XR B h x g P c sv er fl T np L) (hB : B < 2 ^ 20) (y z : Int32) {r : Nat} {f0 : Nat → Int64} (hr : r < x ∨ x + 481 ≤ r) (h3 : h r = some (.inl (4, 1, .inr (.inl f0)))) : zC Γ l d mW_codesWith [.ref x, .int y, .int z, .ref r] h n 1 6 (zWq x r n h (aCods g y z).1 (((aCods g y z)).2).toInt64 (fun h1 => XR B h1 x g P c sv er fl T np L)) := by
  have hX9 := hX
  obtain ⟨⟨st, hst, hx, htr⟩, -⟩ := hX
  refine zC_ofX (ls := [some (.ref x), some (.int y), some (.int z), some (.ref r), none]) hl (by decide +kernel) (by decide) (Nat.le_of_ble_eq_true rfl) rfl ?_
  refine zs_aload_n (pc := 0) dW_codesWith_0 rfl ?_
  refine zs_iconst (pc := 1) dW_codesWith_1 zi_0 ?_
  refine zs_aload_n (pc := 2) dW_codesWith_2 rfl ?_
  refine zs_iload_n (pc := 3) dW_codesWith_3 rfl ?_
  refine zs_iload_n (pc := 4) dW_codesWith_4 rfl ?_
  refine zcVR_2 (pc := 5) (d2 := d - 1) (s_X_codesWith hl (by omega) hX9 hB y z) dW_codesWith_5 kW_98 mdX_codesWith miX_codesWith mvX_codesWith rfl (by exact hx) rfl (Nat.le_of_ble_eq_true rfl) (by omega) (by omega) (by omega) (fun v h1 n1 hq => ?_) (fun E h1 n1 hq => ?_)
  · obtain ⟨o1, rfl, rfl⟩ := hq.1.l
    have o1 : (aCods g y z).1 = 0 := o1
    refine zs_i2l (pc := 8) dW_codesWith_8 ?_
    refine zs_last (pc := 9) dW_codesWith_9 (by exact (hq.2.1 r hr).trans h3) (vp_in_nI (by decide) (by decide)) ?_
    refine zs_goto (pc := 10) 17 dW_codesWith_10 rfl ?_
    refine zs_iconst (pc := 17) dW_codesWith_17 zi_0 ?_
    exact zs_iret (pc := 18) dW_codesWith_18 rfl rfl (by omega) (by omega) (⟨by rw [o1], Nat.le_refl _, fun q q1 q2 => (zu_n q2).trans (hq.2.1 q q1), XR.sm hq.2.2 (fun q g1 g2 => zu_n (by omega)), _, zu_s, fun _ => if_pos (by decide)⟩)
  · obtain ⟨o1, oE, o3⟩ := hq.1.r
    have o1 : (aCods g y z).1 ≠ 0 := o1
    have hlt : (aCods g y z).1 < 2 := by
        unfold aCods
        (repeat' split) <;> exact Nat.le_of_ble_eq_true rfl
    have ha : (aCods g y z).1 = 1 := by omega
    obtain rfl : E = sIA := oE.trans (congrArg (fun k => List.getD ["", sIA] k "") ha)
    refine zx_catch (pc := 5) [] (0, 10, 13, 13) [] rfl (fun z hz => by cases hz) rfl (by decide) kcW_13 (zt2 (i := 77) rfl) (fun q => ?_)
    refine zs_astore (pc := 13) (ls2 := [_, _, _, _, _]) dW_codesWith_13 (Nat.le_of_ble_eq_true rfl) rfl ?_
    refine zs_iconst (pc := 15) dW_codesWith_15 zi_1 ?_
    exact zs_iret (pc := 16) dW_codesWith_16 rfl rfl (by omega) (by omega) (⟨by rw [ha], o3, fun q q1 q2 => hq.2.1 q q1, hq.2.2, f0, (hq.2.1 r hr).trans h3, fun q => absurd q o1⟩)
theorem s_W_nextDigits {Γ : zG} {l : Launch} (hl : l.stackTraces = false) {d : Nat} (hd : 10 ≤ d) {h : zH} {n : Nat} {B x c np : Nat} {g T : Nat → Nat} {P : Nat → Nat → Nat} {sv : Option (Nat → Nat)} {er fl : Option Nat} {L : List Nat} (hX : XR B h x g P c sv er fl T np L) (hB : B < 2 ^ 20) (y z : Int32) {r : Nat} {f0 : Nat → Int64} (hr : r < x ∨ x + 481 ≤ r) (h3 : h r = some (.inl (4, 1, .inr (.inl f0)))) : zC Γ l d mW_nextDigits [.ref x, .int y, .int z, .ref r] h n 1 6 (zWq x r n h (aNext g y z).1 (((aNext g y z)).2).toInt64 (fun h1 => XR B h1 x g P c sv er fl T np L)) := by
  have hX9 := hX
  obtain ⟨⟨st, hst, hx, htr⟩, -⟩ := hX
  refine zC_ofX (ls := [some (.ref x), some (.int y), some (.int z), some (.ref r), none]) hl (by decide +kernel) (by decide) (Nat.le_of_ble_eq_true rfl) rfl ?_
  refine zs_aload_n (pc := 0) dW_nextDigits_0 rfl ?_
  refine zs_iconst (pc := 1) dW_nextDigits_1 zi_0 ?_
  refine zs_aload_n (pc := 2) dW_nextDigits_2 rfl ?_
  refine zs_iload_n (pc := 3) dW_nextDigits_3 rfl ?_
  refine zs_iload_n (pc := 4) dW_nextDigits_4 rfl ?_
  refine zcVR_2 (pc := 5) (d2 := d - 1) (s_X_nextDigits hl (by omega) hX9 hB y z) dW_nextDigits_5 kW_101 mdX_nextDigits miX_nextDigits mvX_nextDigits rfl (by exact hx) rfl (Nat.le_of_ble_eq_true rfl) (by omega) (by omega) (by omega) (fun v h1 n1 hq => ?_) (fun E h1 n1 hq => ?_)
  · obtain ⟨o1, rfl, rfl⟩ := hq.1.l
    have o1 : (aNext g y z).1 = 0 := o1
    refine zs_i2l (pc := 8) dW_nextDigits_8 ?_
    refine zs_last (pc := 9) dW_nextDigits_9 (by exact (hq.2.1 r hr).trans h3) (vp_in_nI (by decide) (by decide)) ?_
    refine zs_goto (pc := 10) 17 dW_nextDigits_10 rfl ?_
    refine zs_iconst (pc := 17) dW_nextDigits_17 zi_0 ?_
    exact zs_iret (pc := 18) dW_nextDigits_18 rfl rfl (by omega) (by omega) (⟨by rw [o1], Nat.le_refl _, fun q q1 q2 => (zu_n q2).trans (hq.2.1 q q1), XR.sm hq.2.2 (fun q g1 g2 => zu_n (by omega)), _, zu_s, fun _ => if_pos (by decide)⟩)
  · obtain ⟨o1, oE, o3⟩ := hq.1.r
    have o1 : (aNext g y z).1 ≠ 0 := o1
    have hlt : (aNext g y z).1 < 2 := by
        unfold aNext
        (repeat' split) <;> exact Nat.le_of_ble_eq_true rfl
    have ha : (aNext g y z).1 = 1 := by omega
    obtain rfl : E = sIA := oE.trans (congrArg (fun k => List.getD ["", sIA] k "") ha)
    refine zx_catch (pc := 5) [] (0, 10, 13, 13) [] rfl (fun z hz => by cases hz) rfl (by decide) kcW_13 (zt2 (i := 77) rfl) (fun q => ?_)
    refine zs_astore (pc := 13) (ls2 := [_, _, _, _, _]) dW_nextDigits_13 (Nat.le_of_ble_eq_true rfl) rfl ?_
    refine zs_iconst (pc := 15) dW_nextDigits_15 zi_1 ?_
    exact zs_iret (pc := 16) dW_nextDigits_16 rfl rfl (by omega) (by omega) (⟨by rw [ha], o3, fun q q1 q2 => hq.2.1 q q1, hq.2.2, f0, (hq.2.1 r hr).trans h3, fun q => absurd q o1⟩)
theorem s_W_sharedDigits {Γ : zG} {l : Launch} (hl : l.stackTraces = false) {d : Nat} (hd : 10 ≤ d) {h : zH} {n : Nat} {B x c np : Nat} {g T : Nat → Nat} {P : Nat → Nat → Nat} {sv : Option (Nat → Nat)} {er fl : Option Nat} {L : List Nat} (hX : XR B h x g P c sv er fl T np L) (hB : B < 2 ^ 20) (y : Int32) {r : Nat} {f0 : Nat → Int64} (hr : r < x ∨ x + 481 ≤ r) (h3 : h r = some (.inl (4, 1, .inr (.inl f0)))) : zC Γ l d mW_sharedDigits [.ref x, .int y, .ref r] h n 1 6 (zWq x r n h (aDep g y).1 (((aDep g y)).2).toInt64 (fun h1 => XR B h1 x g P c sv er fl T np L)) := by
  have hX9 := hX
  obtain ⟨⟨st, hst, hx, htr⟩, -⟩ := hX
  refine zC_ofX (ls := [some (.ref x), some (.int y), some (.ref r), none]) hl (by decide +kernel) (by decide) (Nat.le_of_ble_eq_true rfl) rfl ?_
  refine zs_aload_n (pc := 0) dW_sharedDigits_0 rfl ?_
  refine zs_iconst (pc := 1) dW_sharedDigits_1 zi_0 ?_
  refine zs_aload_n (pc := 2) dW_sharedDigits_2 rfl ?_
  refine zs_iload_n (pc := 3) dW_sharedDigits_3 rfl ?_
  refine zcVR_1 (pc := 4) (d2 := d - 1) (s_X_sharedDigits hl (by omega) hX9 hB y) dW_sharedDigits_4 kW_104 mdX_sharedDigits miX_sharedDigits mvX_sharedDigits rfl (by exact hx) rfl (Nat.le_of_ble_eq_true rfl) (by omega) (by omega) (by omega) (fun v h1 n1 hq => ?_) (fun E h1 n1 hq => ?_)
  · obtain ⟨o1, rfl, rfl⟩ := hq.1.l
    have o1 : (aDep g y).1 = 0 := o1
    refine zs_i2l (pc := 7) dW_sharedDigits_7 ?_
    refine zs_last (pc := 8) dW_sharedDigits_8 (by exact (hq.2.1 r hr).trans h3) (vp_in_nI (by decide) (by decide)) ?_
    refine zs_goto (pc := 9) 15 dW_sharedDigits_9 rfl ?_
    refine zs_iconst (pc := 15) dW_sharedDigits_15 zi_0 ?_
    exact zs_iret (pc := 16) dW_sharedDigits_16 rfl rfl (by omega) (by omega) (⟨by rw [o1], Nat.le_refl _, fun q q1 q2 => (zu_n q2).trans (hq.2.1 q q1), XR.sm hq.2.2 (fun q g1 g2 => zu_n (by omega)), _, zu_s, fun _ => if_pos (by decide)⟩)
  · obtain ⟨o1, oE, o3⟩ := hq.1.r
    have o1 : (aDep g y).1 ≠ 0 := o1
    have hlt : (aDep g y).1 < 2 := by
        unfold aDep
        (repeat' split) <;> exact Nat.le_of_ble_eq_true rfl
    have ha : (aDep g y).1 = 1 := by omega
    obtain rfl : E = sIA := oE.trans (congrArg (fun k => List.getD ["", sIA] k "") ha)
    refine zx_catch (pc := 4) [] (0, 9, 12, 13) [] rfl (fun z hz => by cases hz) rfl (by decide) kcW_13 (zt2 (i := 77) rfl) (fun q => ?_)
    refine zs_astore_n (pc := 12) (ls2 := [_, _, _, _]) dW_sharedDigits_12 (Nat.le_of_ble_eq_true rfl) rfl ?_
    refine zs_iconst (pc := 13) dW_sharedDigits_13 zi_1 ?_
    exact zs_iret (pc := 14) dW_sharedDigits_14 rfl rfl (by omega) (by omega) (⟨by rw [ha], o3, fun q q1 q2 => hq.2.1 q q1, hq.2.2, f0, (hq.2.1 r hr).trans h3, fun q => absurd q o1⟩)
theorem s_W_sharedDigitsByScan {Γ : zG} {l : Launch} (hl : l.stackTraces = false) {d : Nat} (hd : 10 ≤ d) {h : zH} {n : Nat} {B x c np : Nat} {g T : Nat → Nat} {P : Nat → Nat → Nat} {sv : Option (Nat → Nat)} {er fl : Option Nat} {L : List Nat} (hX : XR B h x g P c sv er fl T np L) (hB : B < 2 ^ 20) (y : Int32) {r : Nat} {f0 : Nat → Int64} (hr : r < x ∨ x + 481 ≤ r) (h3 : h r = some (.inl (4, 1, .inr (.inl f0)))) : zC Γ l d mW_sharedDigitsByScan [.ref x, .int y, .ref r] h n 1 6 (zWq x r n h (aDep g y).1 (((aDep g y)).2).toInt64 (fun h1 => XR B h1 x g P c sv er fl T np L)) := by
  have hX9 := hX
  obtain ⟨⟨st, hst, hx, htr⟩, -⟩ := hX
  refine zC_ofX (ls := [some (.ref x), some (.int y), some (.ref r), none]) hl (by decide +kernel) (by decide) (Nat.le_of_ble_eq_true rfl) rfl ?_
  refine zs_aload_n (pc := 0) dW_sharedDigitsByScan_0 rfl ?_
  refine zs_iconst (pc := 1) dW_sharedDigitsByScan_1 zi_0 ?_
  refine zs_aload_n (pc := 2) dW_sharedDigitsByScan_2 rfl ?_
  refine zs_iload_n (pc := 3) dW_sharedDigitsByScan_3 rfl ?_
  refine zcVR_1 (pc := 4) (d2 := d - 1) (s_X_sharedDigitsByScan hl (by omega) hX9 hB y) dW_sharedDigitsByScan_4 kW_107 mdX_sharedDigitsByScan miX_sharedDigitsByScan mvX_sharedDigitsByScan rfl (by exact hx) rfl (Nat.le_of_ble_eq_true rfl) (by omega) (by omega) (by omega) (fun v h1 n1 hq => ?_) (fun E h1 n1 hq => ?_)
  · obtain ⟨o1, rfl, rfl⟩ := hq.1.l
    have o1 : (aDep g y).1 = 0 := o1
    refine zs_i2l (pc := 7) dW_sharedDigitsByScan_7 ?_
    refine zs_last (pc := 8) dW_sharedDigitsByScan_8 (by exact (hq.2.1 r hr).trans h3) (vp_in_nI (by decide) (by decide)) ?_
    refine zs_goto (pc := 9) 15 dW_sharedDigitsByScan_9 rfl ?_
    refine zs_iconst (pc := 15) dW_sharedDigitsByScan_15 zi_0 ?_
    exact zs_iret (pc := 16) dW_sharedDigitsByScan_16 rfl rfl (by omega) (by omega) (⟨by rw [o1], Nat.le_refl _, fun q q1 q2 => (zu_n q2).trans (hq.2.1 q q1), XR.sm hq.2.2 (fun q g1 g2 => zu_n (by omega)), _, zu_s, fun _ => if_pos (by decide)⟩)
  · obtain ⟨o1, oE, o3⟩ := hq.1.r
    have o1 : (aDep g y).1 ≠ 0 := o1
    have hlt : (aDep g y).1 < 2 := by
        unfold aDep
        (repeat' split) <;> exact Nat.le_of_ble_eq_true rfl
    have ha : (aDep g y).1 = 1 := by omega
    obtain rfl : E = sIA := oE.trans (congrArg (fun k => List.getD ["", sIA] k "") ha)
    refine zx_catch (pc := 4) [] (0, 9, 12, 13) [] rfl (fun z hz => by cases hz) rfl (by decide) kcW_13 (zt2 (i := 77) rfl) (fun q => ?_)
    refine zs_astore_n (pc := 12) (ls2 := [_, _, _, _]) dW_sharedDigitsByScan_12 (Nat.le_of_ble_eq_true rfl) rfl ?_
    refine zs_iconst (pc := 13) dW_sharedDigitsByScan_13 zi_1 ?_
    exact zs_iret (pc := 14) dW_sharedDigitsByScan_14 rfl rfl (by omega) (by omega) (⟨by rw [ha], o3, fun q q1 q2 => hq.2.1 q q1, hq.2.2, f0, (hq.2.1 r hr).trans h3, fun q => absurd q o1⟩)
theorem s_W_entriesWith {Γ : zG} {l : Launch} (hl : l.stackTraces = false) {d : Nat} (hd : 10 ≤ d) {h : zH} {n : Nat} {B x c np : Nat} {g T : Nat → Nat} {P : Nat → Nat → Nat} {sv : Option (Nat → Nat)} {er fl : Option Nat} {L : List Nat} (hX : XR B h x g P c sv er fl T np L) (hB : B < 2 ^ 20) (y : Int32) {r : Nat} {f0 : Nat → Int64} (hr : r < x ∨ x + 481 ≤ r) (h3 : h r = some (.inl (4, 1, .inr (.inl f0)))) : zC Γ l d mW_entriesWith [.ref x, .int y, .ref r] h n 1 6 (zWq x r n h (aEnt g y).1 (((aEnt g y)).2).toInt64 (fun h1 => XR B h1 x g P c sv er fl T np L)) := by
  have hX9 := hX
  obtain ⟨⟨st, hst, hx, htr⟩, -⟩ := hX
  refine zC_ofX (ls := [some (.ref x), some (.int y), some (.ref r), none]) hl (by decide +kernel) (by decide) (Nat.le_of_ble_eq_true rfl) rfl ?_
  refine zs_aload_n (pc := 0) dW_entriesWith_0 rfl ?_
  refine zs_iconst (pc := 1) dW_entriesWith_1 zi_0 ?_
  refine zs_aload_n (pc := 2) dW_entriesWith_2 rfl ?_
  refine zs_iload_n (pc := 3) dW_entriesWith_3 rfl ?_
  refine zcVR_1 (pc := 4) (d2 := d - 1) (s_X_entriesWith hl (by omega) hX9 hB y) dW_entriesWith_4 kW_110 mdX_entriesWith miX_entriesWith mvX_entriesWith rfl (by exact hx) rfl (Nat.le_of_ble_eq_true rfl) (by omega) (by omega) (by omega) (fun v h1 n1 hq => ?_) (fun E h1 n1 hq => ?_)
  · obtain ⟨o1, rfl, rfl⟩ := hq.1.l
    have o1 : (aEnt g y).1 = 0 := o1
    refine zs_i2l (pc := 7) dW_entriesWith_7 ?_
    refine zs_last (pc := 8) dW_entriesWith_8 (by exact (hq.2.1 r hr).trans h3) (vp_in_nI (by decide) (by decide)) ?_
    refine zs_goto (pc := 9) 15 dW_entriesWith_9 rfl ?_
    refine zs_iconst (pc := 15) dW_entriesWith_15 zi_0 ?_
    exact zs_iret (pc := 16) dW_entriesWith_16 rfl rfl (by omega) (by omega) (⟨by rw [o1], Nat.le_refl _, fun q q1 q2 => (zu_n q2).trans (hq.2.1 q q1), XR.sm hq.2.2 (fun q g1 g2 => zu_n (by omega)), _, zu_s, fun _ => if_pos (by decide)⟩)
  · obtain ⟨o1, oE, o3⟩ := hq.1.r
    have o1 : (aEnt g y).1 ≠ 0 := o1
    have hlt : (aEnt g y).1 < 2 := by
        unfold aEnt
        (repeat' split) <;> exact Nat.le_of_ble_eq_true rfl
    have ha : (aEnt g y).1 = 1 := by omega
    obtain rfl : E = sIA := oE.trans (congrArg (fun k => List.getD ["", sIA] k "") ha)
    refine zx_catch (pc := 4) [] (0, 9, 12, 13) [] rfl (fun z hz => by cases hz) rfl (by decide) kcW_13 (zt2 (i := 77) rfl) (fun q => ?_)
    refine zs_astore_n (pc := 12) (ls2 := [_, _, _, _]) dW_entriesWith_12 (Nat.le_of_ble_eq_true rfl) rfl ?_
    refine zs_iconst (pc := 13) dW_entriesWith_13 zi_1 ?_
    exact zs_iret (pc := 14) dW_entriesWith_14 rfl rfl (by omega) (by omega) (⟨by rw [ha], o3, fun q q1 q2 => hq.2.1 q q1, hq.2.2, f0, (hq.2.1 r hr).trans h3, fun q => absurd q o1⟩)
theorem s_W_codeAfter {Γ : zG} {l : Launch} (hl : l.stackTraces = false) {d : Nat} (hd : 10 ≤ d) {h : zH} {n : Nat} {B x c np : Nat} {g T : Nat → Nat} {P : Nat → Nat → Nat} {sv : Option (Nat → Nat)} {er fl : Option Nat} {L : List Nat} (hX : XR B h x g P c sv er fl T np L) (hB : B < 2 ^ 20) (y : Int32) {r : Nat} {f0 : Nat → Int64} (hr : r < x ∨ x + 481 ≤ r) (h3 : h r = some (.inl (4, 1, .inr (.inl f0)))) : zC Γ l d mW_codeAfter [.ref x, .int y, .ref r] h n 1 6 (zWq x r n h (aAft g y).1 (((aAft g y)).2).toInt64 (fun h1 => XR B h1 x g P c sv er fl T np L)) := by
  have hX9 := hX
  obtain ⟨⟨st, hst, hx, htr⟩, -⟩ := hX
  refine zC_ofX (ls := [some (.ref x), some (.int y), some (.ref r), none]) hl (by decide +kernel) (by decide) (Nat.le_of_ble_eq_true rfl) rfl ?_
  refine zs_aload_n (pc := 0) dW_codeAfter_0 rfl ?_
  refine zs_iconst (pc := 1) dW_codeAfter_1 zi_0 ?_
  refine zs_aload_n (pc := 2) dW_codeAfter_2 rfl ?_
  refine zs_iload_n (pc := 3) dW_codeAfter_3 rfl ?_
  refine zcVR_1 (pc := 4) (d2 := d - 1) (s_X_codeAfter hl (by omega) hX9 hB y) dW_codeAfter_4 kW_113 mdX_codeAfter miX_codeAfter mvX_codeAfter rfl (by exact hx) rfl (Nat.le_of_ble_eq_true rfl) (by omega) (by omega) (by omega) (fun v h1 n1 hq => ?_) (fun E h1 n1 hq => ?_)
  · obtain ⟨o1, rfl, rfl⟩ := hq.1.l
    have o1 : (aAft g y).1 = 0 := o1
    refine zs_i2l (pc := 7) dW_codeAfter_7 ?_
    refine zs_last (pc := 8) dW_codeAfter_8 (by exact (hq.2.1 r hr).trans h3) (vp_in_nI (by decide) (by decide)) ?_
    refine zs_goto (pc := 9) 18 dW_codeAfter_9 rfl ?_
    refine zs_iconst (pc := 18) dW_codeAfter_18 zi_0 ?_
    exact zs_iret (pc := 19) dW_codeAfter_19 rfl rfl (by omega) (by omega) (⟨by rw [o1], Nat.le_refl _, fun q q1 q2 => (zu_n q2).trans (hq.2.1 q q1), XR.sm hq.2.2 (fun q g1 g2 => zu_n (by omega)), _, zu_s, fun _ => if_pos (by decide)⟩)
  · obtain ⟨o1, oE, o3⟩ := hq.1.r
    have o1 : (aAft g y).1 ≠ 0 := o1
    have hlt : (aAft g y).1 < 3 := by
        unfold aAft
        (repeat' split) <;> exact Nat.le_of_ble_eq_true rfl
    have ha : (aAft g y).1 = 1 ∨ (aAft g y).1 = 2 := by omega
    rcases ha with ha | ha
    · obtain rfl : E = sIA := oE.trans (congrArg (fun k => List.getD ["", sIA, sNS] k "") ha)
      refine zx_catch (pc := 4) [] (0, 9, 12, 13) [(0, 9, 15, 21)] rfl (fun z hz => by cases hz) rfl (by decide) kcW_13 (zt2 (i := 77) rfl) (fun q => ?_)
      refine zs_astore_n (pc := 12) (ls2 := [_, _, _, _]) dW_codeAfter_12 (Nat.le_of_ble_eq_true rfl) rfl ?_
      refine zs_iconst (pc := 13) dW_codeAfter_13 zi_1 ?_
      exact zs_iret (pc := 14) dW_codeAfter_14 rfl rfl (by omega) (by omega) (⟨by rw [ha], o3, fun q q1 q2 => hq.2.1 q q1, hq.2.2, f0, (hq.2.1 r hr).trans h3, fun q => absurd q o1⟩)
    · obtain rfl : E = sNS := oE.trans (congrArg (fun k => List.getD ["", sIA, sNS] k "") ha)
      refine zx_catch (pc := 4) [(0, 9, 12, 13)] (0, 9, 15, 21) [] rfl (by
          intro z hz
          rcases List.mem_cons.mp hz with rfl | hz
          · exact ⟨by decide, "java/lang/IllegalArgumentException", kcW_13, by decide +kernel⟩
          cases hz) rfl (by decide) kcW_21 (zt2 (i := 238) rfl) (fun q => ?_)
      refine zs_astore_n (pc := 15) (ls2 := [_, _, _, _]) dW_codeAfter_15 (Nat.le_of_ble_eq_true rfl) rfl ?_
      refine zs_iconst (pc := 16) dW_codeAfter_16 zi_2 ?_
      exact zs_iret (pc := 17) dW_codeAfter_17 rfl rfl (by omega) (by omega) (⟨by rw [ha], o3, fun q q1 q2 => hq.2.1 q q1, hq.2.2, f0, (hq.2.1 r hr).trans h3, fun q => absurd q o1⟩)
theorem s_W_commonestCode {Γ : zG} {l : Launch} (hl : l.stackTraces = false) {d : Nat} (hd : 10 ≤ d) {h : zH} {n : Nat} {B x c np : Nat} {g T : Nat → Nat} {P : Nat → Nat → Nat} {sv : Option (Nat → Nat)} {er fl : Option Nat} {L : List Nat} (hX : XR B h x g P c sv er fl T np L) (hB : B < 2 ^ 20)  {r : Nat} {f0 : Nat → Int64} (hr : r < x ∨ x + 481 ≤ r) (h3 : h r = some (.inl (4, 1, .inr (.inl f0)))) : zC Γ l d mW_commonestCode [.ref x, .ref r] h n 1 6 (zWq x r n h (aCom g).1 (((aCom g)).2).toInt64 (fun h1 => XR B h1 x g P c sv er fl T np L)) := by
  have hX9 := hX
  obtain ⟨⟨st, hst, hx, htr⟩, -⟩ := hX
  refine zC_ofX (ls := [some (.ref x), some (.ref r), none]) hl (by decide +kernel) (by decide) (Nat.le_of_ble_eq_true rfl) rfl ?_
  refine zs_aload_n (pc := 0) dW_commonestCode_0 rfl ?_
  refine zs_iconst (pc := 1) dW_commonestCode_1 zi_0 ?_
  refine zs_aload_n (pc := 2) dW_commonestCode_2 rfl ?_
  refine zcVR_0 (pc := 3) (d2 := d - 1) (s_X_commonestCode hl (by omega) hX9 hB) dW_commonestCode_3 kW_116 mdX_commonestCode miX_commonestCode mvX_commonestCode rfl (by exact hx) rfl (Nat.le_of_ble_eq_true rfl) (by omega) (by omega) (by omega) (fun v h1 n1 hq => ?_) (fun E h1 n1 hq => ?_)
  · obtain ⟨o1, rfl, rfl⟩ := hq.1.l
    have o1 : (aCom g).1 = 0 := o1
    refine zs_i2l (pc := 6) dW_commonestCode_6 ?_
    refine zs_last (pc := 7) dW_commonestCode_7 (by exact (hq.2.1 r hr).trans h3) (vp_in_nI (by decide) (by decide)) ?_
    refine zs_goto (pc := 8) 14 dW_commonestCode_8 rfl ?_
    refine zs_iconst (pc := 14) dW_commonestCode_14 zi_0 ?_
    exact zs_iret (pc := 15) dW_commonestCode_15 rfl rfl (by omega) (by omega) (⟨by rw [o1], Nat.le_refl _, fun q q1 q2 => (zu_n q2).trans (hq.2.1 q q1), XR.sm hq.2.2 (fun q g1 g2 => zu_n (by omega)), _, zu_s, fun _ => if_pos (by decide)⟩)
  · obtain ⟨o1, oE, o3⟩ := hq.1.r
    have o1 : (aCom g).1 ≠ 0 := o1
    have hlt : (aCom g).1 < 2 := by
        unfold aCom
        (repeat' split) <;> exact Nat.le_of_ble_eq_true rfl
    have ha : (aCom g).1 = 1 := by omega
    obtain rfl : E = sNS := oE.trans (congrArg (fun k => List.getD ["", sNS] k "") ha)
    refine zx_catch (pc := 3) [] (0, 8, 11, 21) [] rfl (fun z hz => by cases hz) rfl (by decide) kcW_21 (zt2 (i := 238) rfl) (fun q => ?_)
    refine zs_astore_n (pc := 11) (ls2 := [_, _, _]) dW_commonestCode_11 (Nat.le_of_ble_eq_true rfl) rfl ?_
    refine zs_iconst (pc := 12) dW_commonestCode_12 zi_1 ?_
    exact zs_iret (pc := 13) dW_commonestCode_13 rfl rfl (by omega) (by omega) (⟨by rw [ha], o3, fun q q1 q2 => hq.2.1 q q1, hq.2.2, f0, (hq.2.1 r hr).trans h3, fun q => absurd q o1⟩)
theorem s_W_sharedCodes {Γ : zG} {l : Launch} (hl : l.stackTraces = false) {d : Nat} (hd : 10 ≤ d) {h : zH} {n : Nat} {B x c np : Nat} {g T : Nat → Nat} {P : Nat → Nat → Nat} {sv : Option (Nat → Nat)} {er fl : Option Nat} {L : List Nat} (hX : XR B h x g P c sv er fl T np L) (hB : B < 2 ^ 20)         (y z : Int32) {r : Nat} {f0 : Nat → Int64} (hr : r < x ∨ x + 481 ≤ r) (h3 : h r = some (.inl (4, 1, .inr (.inl f0)))) : zC Γ l d mW_sharedCodes [.ref x, .int y, .int z, .ref r] h n 1 6 (zWq x r n h (aShare g y z).1 (((aShare g y z)).2).toInt64 (fun h1 => XR B h1 x g P c sv er fl T np L)) := by
  have hX9 := hX
  obtain ⟨⟨st, hst, hx, htr⟩, -⟩ := hX
  refine zC_ofX (ls := [some (.ref x), some (.int y), some (.int z), some (.ref r), none]) hl (by decide +kernel) (by decide) (Nat.le_of_ble_eq_true rfl) rfl ?_
  refine zs_aload_n (pc := 0) dW_sharedCodes_0 rfl ?_
  refine zs_iconst (pc := 1) dW_sharedCodes_1 zi_0 ?_
  refine zs_aload_n (pc := 2) dW_sharedCodes_2 rfl ?_
  refine zs_iload_n (pc := 3) dW_sharedCodes_3 rfl ?_
  refine zs_iload_n (pc := 4) dW_sharedCodes_4 rfl ?_
  refine zcVR_2 (pc := 5) (d2 := d - 1) (s_X_sharedCodes hl (by omega) hX9 hB y z) dW_sharedCodes_5 kW_119 mdX_sharedCodes miX_sharedCodes mvX_sharedCodes rfl (by exact hx) rfl (Nat.le_of_ble_eq_true rfl) (by omega) (by omega) (by omega) (fun v h1 n1 hq => ?_) (fun E h1 n1 hq => ?_)
  · obtain ⟨o1, rfl, rfl⟩ := hq.1.l
    have o1 : (aShare g y z).1 = 0 := o1
    refine zs_i2l (pc := 8) dW_sharedCodes_8 ?_
    refine zs_last (pc := 9) dW_sharedCodes_9 (by exact (hq.2.1 r hr).trans h3) (vp_in_nI (by decide) (by decide)) ?_
    refine zs_goto (pc := 10) 17 dW_sharedCodes_10 rfl ?_
    refine zs_iconst (pc := 17) dW_sharedCodes_17 zi_0 ?_
    exact zs_iret (pc := 18) dW_sharedCodes_18 rfl rfl (by omega) (by omega) (⟨by rw [o1], Nat.le_refl _, fun q q1 q2 => (zu_n q2).trans (hq.2.1 q q1), XR.sm hq.2.2 (fun q g1 g2 => zu_n (by omega)), _, zu_s, fun _ => if_pos (by decide)⟩)
  · obtain ⟨o1, oE, o3⟩ := hq.1.r
    have o1 : (aShare g y z).1 ≠ 0 := o1
    have hlt : (aShare g y z).1 < 2 := by
        unfold aShare
        (repeat' split) <;> exact Nat.le_of_ble_eq_true rfl
    have ha : (aShare g y z).1 = 1 := by omega
    obtain rfl : E = sNS := oE.trans (congrArg (fun k => List.getD ["", sNS] k "") ha)
    refine zx_catch (pc := 5) [] (0, 10, 13, 21) [] rfl (fun z hz => by cases hz) rfl (by decide) kcW_21 (zt2 (i := 238) rfl) (fun q => ?_)
    refine zs_astore (pc := 13) (ls2 := [_, _, _, _, _]) dW_sharedCodes_13 (Nat.le_of_ble_eq_true rfl) rfl ?_
    refine zs_iconst (pc := 15) dW_sharedCodes_15 zi_1 ?_
    exact zs_iret (pc := 16) dW_sharedCodes_16 rfl rfl (by omega) (by omega) (⟨by rw [ha], o3, fun q q1 q2 => hq.2.1 q q1, hq.2.2, f0, (hq.2.1 r hr).trans h3, fun q => absurd q o1⟩)
theorem s_W_mostSimilar {Γ : zG} {l : Launch} (hl : l.stackTraces = false) {d : Nat} (hd : 10 ≤ d) {h : zH} {n : Nat} {B x c np : Nat} {g T : Nat → Nat} {P : Nat → Nat → Nat} {sv : Option (Nat → Nat)} {er fl : Option Nat} {L : List Nat} (hX : XR B h x g P c sv er fl T np L) (hB : B < 2 ^ 20) (y : Int32) {r : Nat} {f0 : Nat → Int64} (hr : r < x ∨ x + 481 ≤ r) (h3 : h r = some (.inl (4, 1, .inr (.inl f0)))) : zC Γ l d mW_mostSimilar [.ref x, .int y, .ref r] h n 1 6 (zWq x r n h (aSim g y).1 (((aSim g y)).2).toInt64 (fun h1 => XR B h1 x g P c sv er fl T np L)) := by
  have hX9 := hX
  obtain ⟨⟨st, hst, hx, htr⟩, -⟩ := hX
  refine zC_ofX (ls := [some (.ref x), some (.int y), some (.ref r), none]) hl (by decide +kernel) (by decide) (Nat.le_of_ble_eq_true rfl) rfl ?_
  refine zs_aload_n (pc := 0) dW_mostSimilar_0 rfl ?_
  refine zs_iconst (pc := 1) dW_mostSimilar_1 zi_0 ?_
  refine zs_aload_n (pc := 2) dW_mostSimilar_2 rfl ?_
  refine zs_iload_n (pc := 3) dW_mostSimilar_3 rfl ?_
  refine zcVR_1 (pc := 4) (d2 := d - 1) (s_X_mostSimilar hl (by omega) hX9 hB y) dW_mostSimilar_4 kW_122 mdX_mostSimilar miX_mostSimilar mvX_mostSimilar rfl (by exact hx) rfl (Nat.le_of_ble_eq_true rfl) (by omega) (by omega) (by omega) (fun v h1 n1 hq => ?_) (fun E h1 n1 hq => ?_)
  · obtain ⟨o1, rfl, rfl⟩ := hq.1.l
    have o1 : (aSim g y).1 = 0 := o1
    refine zs_i2l (pc := 7) dW_mostSimilar_7 ?_
    refine zs_last (pc := 8) dW_mostSimilar_8 (by exact (hq.2.1 r hr).trans h3) (vp_in_nI (by decide) (by decide)) ?_
    refine zs_goto (pc := 9) 15 dW_mostSimilar_9 rfl ?_
    refine zs_iconst (pc := 15) dW_mostSimilar_15 zi_0 ?_
    exact zs_iret (pc := 16) dW_mostSimilar_16 rfl rfl (by omega) (by omega) (⟨by rw [o1], Nat.le_refl _, fun q q1 q2 => (zu_n q2).trans (hq.2.1 q q1), XR.sm hq.2.2 (fun q g1 g2 => zu_n (by omega)), _, zu_s, fun _ => if_pos (by decide)⟩)
  · obtain ⟨o1, oE, o3⟩ := hq.1.r
    have o1 : (aSim g y).1 ≠ 0 := o1
    have hlt : (aSim g y).1 < 2 := by
        unfold aSim
        (repeat' split) <;> exact Nat.le_of_ble_eq_true rfl
    have ha : (aSim g y).1 = 1 := by omega
    obtain rfl : E = sNS := oE.trans (congrArg (fun k => List.getD ["", sNS] k "") ha)
    refine zx_catch (pc := 4) [] (0, 9, 12, 21) [] rfl (fun z hz => by cases hz) rfl (by decide) kcW_21 (zt2 (i := 238) rfl) (fun q => ?_)
    refine zs_astore_n (pc := 12) (ls2 := [_, _, _, _]) dW_mostSimilar_12 (Nat.le_of_ble_eq_true rfl) rfl ?_
    refine zs_iconst (pc := 13) dW_mostSimilar_13 zi_1 ?_
    exact zs_iret (pc := 14) dW_mostSimilar_14 rfl rfl (by omega) (by omega) (⟨by rw [ha], o3, fun q q1 q2 => hq.2.1 q q1, hq.2.2, f0, (hq.2.1 r hr).trans h3, fun q => absurd q o1⟩)
theorem s_W_daysUntilFaded {Γ : zG} {l : Launch} (hl : l.stackTraces = false) {d : Nat} (hd : 10 ≤ d) {h : zH} {n : Nat} {B x c np : Nat} {g T : Nat → Nat} {P : Nat → Nat → Nat} {sv : Option (Nat → Nat)} {er fl : Option Nat} {L : List Nat} (hX : XR B h x g P c sv er fl T np L) (hB : B < 2 ^ 20)         (y : Int32) {r : Nat} {f0 : Nat → Int64} (hr : r < x ∨ x + 481 ≤ r) (h3 : h r = some (.inl (4, 1, .inr (.inl f0)))) : zC Γ l d mW_daysUntilFaded [.ref x, .int y, .ref r] h n 1 6 (zWq x r n h (aLeft g y).1 (((aLeft g y)).2).toInt64 (fun h1 => XR B h1 x g P c sv er fl T np L)) := by
  have hX9 := hX
  obtain ⟨⟨st, hst, hx, htr⟩, -⟩ := hX
  refine zC_ofX (ls := [some (.ref x), some (.int y), some (.ref r), none]) hl (by decide +kernel) (by decide) (Nat.le_of_ble_eq_true rfl) rfl ?_
  refine zs_aload_n (pc := 0) dW_daysUntilFaded_0 rfl ?_
  refine zs_iconst (pc := 1) dW_daysUntilFaded_1 zi_0 ?_
  refine zs_aload_n (pc := 2) dW_daysUntilFaded_2 rfl ?_
  refine zs_iload_n (pc := 3) dW_daysUntilFaded_3 rfl ?_
  refine zcVR_1 (pc := 4) (d2 := d - 1) (s_X_daysUntilFaded hl (by omega) hX9 hB y) dW_daysUntilFaded_4 kW_125 mdX_daysUntilFaded miX_daysUntilFaded mvX_daysUntilFaded rfl (by exact hx) rfl (Nat.le_of_ble_eq_true rfl) (by omega) (by omega) (by omega) (fun v h1 n1 hq => ?_) (fun E h1 n1 hq => ?_)
  · obtain ⟨o1, rfl, rfl⟩ := hq.1.l
    have o1 : (aLeft g y).1 = 0 := o1
    refine zs_i2l (pc := 7) dW_daysUntilFaded_7 ?_
    refine zs_last (pc := 8) dW_daysUntilFaded_8 (by exact (hq.2.1 r hr).trans h3) (vp_in_nI (by decide) (by decide)) ?_
    refine zs_goto (pc := 9) 15 dW_daysUntilFaded_9 rfl ?_
    refine zs_iconst (pc := 15) dW_daysUntilFaded_15 zi_0 ?_
    exact zs_iret (pc := 16) dW_daysUntilFaded_16 rfl rfl (by omega) (by omega) (⟨by rw [o1], Nat.le_refl _, fun q q1 q2 => (zu_n q2).trans (hq.2.1 q q1), XR.sm hq.2.2 (fun q g1 g2 => zu_n (by omega)), _, zu_s, fun _ => if_pos (by decide)⟩)
  · obtain ⟨o1, oE, o3⟩ := hq.1.r
    have o1 : (aLeft g y).1 ≠ 0 := o1
    have hlt : (aLeft g y).1 < 2 := by
        unfold aLeft
        (repeat' split) <;> exact Nat.le_of_ble_eq_true rfl
    have ha : (aLeft g y).1 = 1 := by omega
    obtain rfl : E = sNS := oE.trans (congrArg (fun k => List.getD ["", sNS] k "") ha)
    refine zx_catch (pc := 4) [] (0, 9, 12, 21) [] rfl (fun z hz => by cases hz) rfl (by decide) kcW_21 (zt2 (i := 238) rfl) (fun q => ?_)
    refine zs_astore_n (pc := 12) (ls2 := [_, _, _, _]) dW_daysUntilFaded_12 (Nat.le_of_ble_eq_true rfl) rfl ?_
    refine zs_iconst (pc := 13) dW_daysUntilFaded_13 zi_1 ?_
    exact zs_iret (pc := 14) dW_daysUntilFaded_14 rfl rfl (by omega) (by omega) (⟨by rw [ha], o3, fun q q1 q2 => hq.2.1 q q1, hq.2.2, f0, (hq.2.1 r hr).trans h3, fun q => absurd q o1⟩)
theorem s_W_daysUntilFadedByDays {Γ : zG} {l : Launch} (hl : l.stackTraces = false) {d : Nat} (hd : 10 ≤ d) {h : zH} {n : Nat} {B x c np : Nat} {g T : Nat → Nat} {P : Nat → Nat → Nat} {sv : Option (Nat → Nat)} {er fl : Option Nat} {L : List Nat} (hX : XR B h x g P c sv er fl T np L) (hB : B < 2 ^ 20) (y : Int32) {r : Nat} {f0 : Nat → Int64} (hr : r < x ∨ x + 481 ≤ r) (h3 : h r = some (.inl (4, 1, .inr (.inl f0)))) : zC Γ l d mW_daysUntilFadedByDays [.ref x, .int y, .ref r] h n 1 6 (zWq x r n h (aLeft g y).1 (((aLeft g y)).2).toInt64 (fun h1 => XR B h1 x g P c sv er fl T np L)) := by
  have hX9 := hX
  obtain ⟨⟨st, hst, hx, htr⟩, -⟩ := hX
  refine zC_ofX (ls := [some (.ref x), some (.int y), some (.ref r), none]) hl (by decide +kernel) (by decide) (Nat.le_of_ble_eq_true rfl) rfl ?_
  refine zs_aload_n (pc := 0) dW_daysUntilFadedByDays_0 rfl ?_
  refine zs_iconst (pc := 1) dW_daysUntilFadedByDays_1 zi_0 ?_
  refine zs_aload_n (pc := 2) dW_daysUntilFadedByDays_2 rfl ?_
  refine zs_iload_n (pc := 3) dW_daysUntilFadedByDays_3 rfl ?_
  refine zcVR_1 (pc := 4) (d2 := d - 1) (s_X_daysUntilFadedByDays hl (by omega) hX9 hB y) dW_daysUntilFadedByDays_4 kW_128 mdX_daysUntilFadedByDays miX_daysUntilFadedByDays mvX_daysUntilFadedByDays rfl (by exact hx) rfl (Nat.le_of_ble_eq_true rfl) (by omega) (by omega) (by omega) (fun v h1 n1 hq => ?_) (fun E h1 n1 hq => ?_)
  · obtain ⟨o1, rfl, rfl⟩ := hq.1.l
    have o1 : (aLeft g y).1 = 0 := o1
    refine zs_i2l (pc := 7) dW_daysUntilFadedByDays_7 ?_
    refine zs_last (pc := 8) dW_daysUntilFadedByDays_8 (by exact (hq.2.1 r hr).trans h3) (vp_in_nI (by decide) (by decide)) ?_
    refine zs_goto (pc := 9) 15 dW_daysUntilFadedByDays_9 rfl ?_
    refine zs_iconst (pc := 15) dW_daysUntilFadedByDays_15 zi_0 ?_
    exact zs_iret (pc := 16) dW_daysUntilFadedByDays_16 rfl rfl (by omega) (by omega) (⟨by rw [o1], Nat.le_refl _, fun q q1 q2 => (zu_n q2).trans (hq.2.1 q q1), XR.sm hq.2.2 (fun q g1 g2 => zu_n (by omega)), _, zu_s, fun _ => if_pos (by decide)⟩)
  · obtain ⟨o1, oE, o3⟩ := hq.1.r
    have o1 : (aLeft g y).1 ≠ 0 := o1
    have hlt : (aLeft g y).1 < 2 := by
        unfold aLeft
        (repeat' split) <;> exact Nat.le_of_ble_eq_true rfl
    have ha : (aLeft g y).1 = 1 := by omega
    obtain rfl : E = sNS := oE.trans (congrArg (fun k => List.getD ["", sNS] k "") ha)
    refine zx_catch (pc := 4) [] (0, 9, 12, 21) [] rfl (fun z hz => by cases hz) rfl (by decide) kcW_21 (zt2 (i := 238) rfl) (fun q => ?_)
    refine zs_astore_n (pc := 12) (ls2 := [_, _, _, _]) dW_daysUntilFadedByDays_12 (Nat.le_of_ble_eq_true rfl) rfl ?_
    refine zs_iconst (pc := 13) dW_daysUntilFadedByDays_13 zi_1 ?_
    exact zs_iret (pc := 14) dW_daysUntilFadedByDays_14 rfl rfl (by omega) (by omega) (⟨by rw [ha], o3, fun q q1 q2 => hq.2.1 q q1, hq.2.2, f0, (hq.2.1 r hr).trans h3, fun q => absurd q o1⟩)
theorem s_W_fadingWithin {Γ : zG} {l : Launch} (hl : l.stackTraces = false) {d : Nat} (hd : 10 ≤ d) {h : zH} {n : Nat} {B x c np : Nat} {g T : Nat → Nat} {P : Nat → Nat → Nat} {sv : Option (Nat → Nat)} {er fl : Option Nat} {L : List Nat} (hX : XR B h x g P c sv er fl T np L) (hB : B < 2 ^ 20) (y : Int32) {r : Nat} {f0 : Nat → Int64} (hr : r < x ∨ x + 481 ≤ r) (h3 : h r = some (.inl (4, 1, .inr (.inl f0)))) : zC Γ l d mW_fadingWithin [.ref x, .int y, .ref r] h n 1 6 (zWq x r n h (aFad g y).1 (((aFad g y)).2).toInt64 (fun h1 => XR B h1 x g P c sv er fl T np L)) := by
  have hX9 := hX
  obtain ⟨⟨st, hst, hx, htr⟩, -⟩ := hX
  refine zC_ofX (ls := [some (.ref x), some (.int y), some (.ref r), none]) hl (by decide +kernel) (by decide) (Nat.le_of_ble_eq_true rfl) rfl ?_
  refine zs_aload_n (pc := 0) dW_fadingWithin_0 rfl ?_
  refine zs_iconst (pc := 1) dW_fadingWithin_1 zi_0 ?_
  refine zs_aload_n (pc := 2) dW_fadingWithin_2 rfl ?_
  refine zs_iload_n (pc := 3) dW_fadingWithin_3 rfl ?_
  refine zcVR_1 (pc := 4) (d2 := d - 1) (s_X_fadingWithin hl (by omega) hX9 hB y) dW_fadingWithin_4 kW_131 mdX_fadingWithin miX_fadingWithin mvX_fadingWithin rfl (by exact hx) rfl (Nat.le_of_ble_eq_true rfl) (by omega) (by omega) (by omega) (fun v h1 n1 hq => ?_) (fun E h1 n1 hq => ?_)
  · obtain ⟨o1, rfl, rfl⟩ := hq.1.l
    have o1 : (aFad g y).1 = 0 := o1
    refine zs_i2l (pc := 7) dW_fadingWithin_7 ?_
    refine zs_last (pc := 8) dW_fadingWithin_8 (by exact (hq.2.1 r hr).trans h3) (vp_in_nI (by decide) (by decide)) ?_
    refine zs_goto (pc := 9) 15 dW_fadingWithin_9 rfl ?_
    refine zs_iconst (pc := 15) dW_fadingWithin_15 zi_0 ?_
    exact zs_iret (pc := 16) dW_fadingWithin_16 rfl rfl (by omega) (by omega) (⟨by rw [o1], Nat.le_refl _, fun q q1 q2 => (zu_n q2).trans (hq.2.1 q q1), XR.sm hq.2.2 (fun q g1 g2 => zu_n (by omega)), _, zu_s, fun _ => if_pos (by decide)⟩)
  · obtain ⟨o1, oE, o3⟩ := hq.1.r
    have o1 : (aFad g y).1 ≠ 0 := o1
    have hlt : (aFad g y).1 < 2 := by
        unfold aFad
        (repeat' split) <;> exact Nat.le_of_ble_eq_true rfl
    have ha : (aFad g y).1 = 1 := by omega
    obtain rfl : E = sIA := oE.trans (congrArg (fun k => List.getD ["", sIA] k "") ha)
    refine zx_catch (pc := 4) [] (0, 9, 12, 13) [] rfl (fun z hz => by cases hz) rfl (by decide) kcW_13 (zt2 (i := 77) rfl) (fun q => ?_)
    refine zs_astore_n (pc := 12) (ls2 := [_, _, _, _]) dW_fadingWithin_12 (Nat.le_of_ble_eq_true rfl) rfl ?_
    refine zs_iconst (pc := 13) dW_fadingWithin_13 zi_1 ?_
    exact zs_iret (pc := 14) dW_fadingWithin_14 rfl rfl (by omega) (by omega) (⟨by rw [ha], o3, fun q q1 q2 => hq.2.1 q q1, hq.2.2, f0, (hq.2.1 r hr).trans h3, fun q => absurd q o1⟩)
theorem s_W_meanCodes {Γ : zG} {l : Launch} (hl : l.stackTraces = false) {d : Nat} (hd : 10 ≤ d) {h : zH} {n : Nat} {B x c np : Nat} {g T : Nat → Nat} {P : Nat → Nat → Nat} {sv : Option (Nat → Nat)} {er fl : Option Nat} {L : List Nat} (hX : XR B h x g P c sv er fl T np L) (hB : B < 2 ^ 20)  {r : Nat} {f0 : Nat → UInt64} (hr : r < x ∨ x + 481 ≤ r) (h3 : h r = some (.inl (5, 1, .inr (.inr (.inr (.inl f0)))))) : zC Γ l d mW_meanCodes [.ref x, .ref r] h n 1 6 (zWqD x r n h (aMean g).1 (mMean g) (fun h1 => XR B h1 x g P c sv er fl T np L)) := by
  have hX9 := hX
  obtain ⟨⟨st, hst, hx, htr⟩, -⟩ := hX
  refine zC_ofX (ls := [some (.ref x), some (.ref r), none]) hl (by decide +kernel) (by decide) (Nat.le_of_ble_eq_true rfl) rfl ?_
  refine zs_aload_n (pc := 0) dW_meanCodes_0 rfl ?_
  refine zs_iconst (pc := 1) dW_meanCodes_1 zi_0 ?_
  refine zs_aload_n (pc := 2) dW_meanCodes_2 rfl ?_
  refine zcVR_0 (pc := 3) (d2 := d - 1) (s_X_meanCodes hl (by omega) hX9 hB) dW_meanCodes_3 kW_134 mdX_meanCodes miX_meanCodes mvX_meanCodes rfl (by exact hx) rfl (Nat.le_of_ble_eq_true rfl) (by omega) (by omega) (by omega) (fun v h1 n1 hq => ?_) (fun E h1 n1 hq => ?_)
  · have e9 : ¬ g 0 = 0 := fun e => by
      have o1 := hq.1.l.1
      unfold aMean at o1
      rw [if_pos e] at o1
      cases o1
    have eA : aMean g = (0, .double (yMean g)) := if_neg e9
    have eM : mMean g = yMean g := if_neg e9
    obtain ⟨o1, o2, rfl⟩ := hq.1.l
    have o1 : (aMean g).1 = 0 := o1
    rw [eA] at o2
    obtain rfl := o2
    refine zs_dast (pc := 6) dW_meanCodes_6 (by exact (hq.2.1 r hr).trans h3) (vp_in_nI (by decide) (by decide)) ?_
    refine zs_goto (pc := 7) 13 dW_meanCodes_7 rfl ?_
    refine zs_iconst (pc := 13) dW_meanCodes_13 zi_0 ?_
    exact zs_iret (pc := 14) dW_meanCodes_14 rfl rfl (by omega) (by omega) (⟨by rw [o1], Nat.le_refl _, fun q q1 q2 => (zu_n q2).trans (hq.2.1 q q1), XR.sm hq.2.2 (fun q g1 g2 => zu_n (by omega)), _, zu_s, fun _ => by rw [eM]; exact if_pos (by decide)⟩)
  · obtain ⟨o1, oE, o3⟩ := hq.1.r
    have o1 : (aMean g).1 ≠ 0 := o1
    have hlt : (aMean g).1 < 2 := by
        unfold aMean
        (repeat' split) <;> exact Nat.le_of_ble_eq_true rfl
    have ha : (aMean g).1 = 1 := by omega
    obtain rfl : E = sAR := oE.trans (congrArg (fun k => List.getD ["", sAR] k "") ha)
    refine zx_catch (pc := 3) [] (0, 7, 10, 138) [] rfl (fun z hz => by cases hz) rfl (by decide) kcW_138 (zt5 (i := 28) rfl) (fun q => ?_)
    refine zs_astore_n (pc := 10) (ls2 := [_, _, _]) dW_meanCodes_10 (Nat.le_of_ble_eq_true rfl) rfl ?_
    refine zs_iconst (pc := 11) dW_meanCodes_11 zi_1 ?_
    exact zs_iret (pc := 12) dW_meanCodes_12 rfl rfl (by omega) (by omega) (⟨by rw [ha], o3, fun q q1 q2 => hq.2.1 q q1, hq.2.2, f0, (hq.2.1 r hr).trans h3, fun q => absurd q o1⟩)
theorem s_W_fadedShare {Γ : zG} {l : Launch} (hl : l.stackTraces = false) {d : Nat} (hd : 10 ≤ d) {h : zH} {n : Nat} {B x c np : Nat} {g T : Nat → Nat} {P : Nat → Nat → Nat} {sv : Option (Nat → Nat)} {er fl : Option Nat} {L : List Nat} (hX : XR B h x g P c sv er fl T np L) (hB : B < 2 ^ 20)  {r : Nat} {f0 : Nat → UInt64} (hr : r < x ∨ x + 481 ≤ r) (h3 : h r = some (.inl (5, 1, .inr (.inr (.inr (.inl f0)))))) : zC Γ l d mW_fadedShare [.ref x, .ref r] h n 1 6 (zWqD x r n h (aShr g).1 (FP.f2d (mShr g)) (fun h1 => XR B h1 x g P c sv er fl T np L)) := by
  have hX9 := hX
  obtain ⟨⟨st, hst, hx, htr⟩, -⟩ := hX
  refine zC_ofX (ls := [some (.ref x), some (.ref r), none]) hl (by decide +kernel) (by decide) (Nat.le_of_ble_eq_true rfl) rfl ?_
  refine zs_aload_n (pc := 0) dW_fadedShare_0 rfl ?_
  refine zs_iconst (pc := 1) dW_fadedShare_1 zi_0 ?_
  refine zs_aload_n (pc := 2) dW_fadedShare_2 rfl ?_
  refine zcVR_0 (pc := 3) (d2 := d - 1) (s_X_fadedShare hl (by omega) hX9 hB) dW_fadedShare_3 kW_140 mdX_fadedShare miX_fadedShare mvX_fadedShare rfl (by exact hx) rfl (Nat.le_of_ble_eq_true rfl) (by omega) (by omega) (by omega) (fun v h1 n1 hq => ?_) (fun E h1 n1 hq => ?_)
  · have e9 : ¬ g 1 = 0 := fun e => by
      have o1 := hq.1.l.1
      unfold aShr at o1
      rw [if_pos e] at o1
      cases o1
    have eA : aShr g = (0, .float (yShr g)) := if_neg e9
    have eM : mShr g = yShr g := if_neg e9
    obtain ⟨o1, o2, rfl⟩ := hq.1.l
    have o1 : (aShr g).1 = 0 := o1
    rw [eA] at o2
    obtain rfl := o2
    have i0 := hX9.2.2.1.2.1
    have hN : FP.Core.fIsNaN (yShr g) = false := yfd_n (nI_ne (by omega) (by decide) e9)
    refine zs_f2d (pc := 6) dW_fadedShare_6 (ynn64 (yff_n hN)) ?_
    refine zs_dast (pc := 7) dW_fadedShare_7 (by exact (hq.2.1 r hr).trans h3) (vp_in_nI (by decide) (by decide)) ?_
    refine zs_goto (pc := 8) 14 dW_fadedShare_8 rfl ?_
    refine zs_iconst (pc := 14) dW_fadedShare_14 zi_0 ?_
    exact zs_iret (pc := 15) dW_fadedShare_15 rfl rfl (by omega) (by omega) (⟨by rw [o1], Nat.le_refl _, fun q q1 q2 => (zu_n q2).trans (hq.2.1 q q1), XR.sm hq.2.2 (fun q g1 g2 => zu_n (by omega)), _, zu_s, fun _ => by rw [eM]; exact if_pos (by decide)⟩)
  · obtain ⟨o1, oE, o3⟩ := hq.1.r
    have o1 : (aShr g).1 ≠ 0 := o1
    have hlt : (aShr g).1 < 2 := by
        unfold aShr
        (repeat' split) <;> exact Nat.le_of_ble_eq_true rfl
    have ha : (aShr g).1 = 1 := by omega
    obtain rfl : E = sAR := oE.trans (congrArg (fun k => List.getD ["", sAR] k "") ha)
    refine zx_catch (pc := 3) [] (0, 8, 11, 138) [] rfl (fun z hz => by cases hz) rfl (by decide) kcW_138 (zt5 (i := 28) rfl) (fun q => ?_)
    refine zs_astore_n (pc := 11) (ls2 := [_, _, _]) dW_fadedShare_11 (Nat.le_of_ble_eq_true rfl) rfl ?_
    refine zs_iconst (pc := 12) dW_fadedShare_12 zi_1 ?_
    exact zs_iret (pc := 13) dW_fadedShare_13 rfl rfl (by omega) (by omega) (⟨by rw [ha], o3, fun q q1 q2 => hq.2.1 q q1, hq.2.2, f0, (hq.2.1 r hr).trans h3, fun q => absurd q o1⟩)
theorem s_W_formatEntry {Γ : zG} {l : Launch} (hl : l.stackTraces = false) {d : Nat} (hd : 10 ≤ d) {h : zH} {n : Nat} {B x c np : Nat} {g T : Nat → Nat} {P : Nat → Nat → Nat} {sv : Option (Nat → Nat)} {er fl : Option Nat} {L : List Nat} (hX : XR B h x g P c sv er fl T np L) (hB : B < 2 ^ 20) (y : Int32) {r : Nat} {f0 : Nat → Int64} (hr : r < x ∨ x + 481 ≤ r) (h3 : h r = some (.inl (4, 1, .inr (.inl f0)))) : zC Γ l d mW_formatEntry [.ref x, .int y, .ref r] h n 1 6 (zWq x r n h (aFmtE g y).1 (((aFmtE g y)).2).toInt64 (fun h1 => XR B h1 x g P c sv er fl T np (zLe g y L))) := by
  have hX9 := hX
  obtain ⟨⟨st, hst, hx, htr⟩, -⟩ := hX
  refine zC_ofX (ls := [some (.ref x), some (.int y), some (.ref r), none]) hl (by decide +kernel) (by decide) (Nat.le_of_ble_eq_true rfl) rfl ?_
  refine zs_aload_n (pc := 0) dW_formatEntry_0 rfl ?_
  refine zs_iconst (pc := 1) dW_formatEntry_1 zi_0 ?_
  refine zs_aload_n (pc := 2) dW_formatEntry_2 rfl ?_
  refine zs_iload_n (pc := 3) dW_formatEntry_3 rfl ?_
  refine zcVR_1 (pc := 4) (d2 := d - 1) (s_X_formatEntry hl (by omega) hX9 hB y) dW_formatEntry_4 kW_144 mdX_formatEntry miX_formatEntry mvX_formatEntry rfl (by exact hx) rfl (Nat.le_of_ble_eq_true rfl) (by omega) (by omega) (by omega) (fun v h1 n1 hq => ?_) (fun E h1 n1 hq => ?_)
  · obtain ⟨o1, rfl, rfl⟩ := hq.1.l
    have o1 : (aFmtE g y).1 = 0 := o1
    refine zs_i2l (pc := 7) dW_formatEntry_7 ?_
    refine zs_last (pc := 8) dW_formatEntry_8 (by exact (hq.2.1 r hr).trans h3) (vp_in_nI (by decide) (by decide)) ?_
    refine zs_goto (pc := 9) 15 dW_formatEntry_9 rfl ?_
    refine zs_iconst (pc := 15) dW_formatEntry_15 zi_0 ?_
    exact zs_iret (pc := 16) dW_formatEntry_16 rfl rfl (by omega) (by omega) (⟨by rw [o1], Nat.le_refl _, fun q q1 q2 => (zu_n q2).trans (hq.2.1 q q1), XR.sm hq.2.2 (fun q g1 g2 => zu_n (by omega)), _, zu_s, fun _ => if_pos (by decide)⟩)
  · obtain ⟨o1, oE, o3⟩ := hq.1.r
    have o1 : (aFmtE g y).1 ≠ 0 := o1
    have hlt : (aFmtE g y).1 < 2 := by
        unfold aFmtE
        (repeat' split) <;> exact Nat.le_of_ble_eq_true rfl
    have ha : (aFmtE g y).1 = 1 := by omega
    obtain rfl : E = sNS := oE.trans (congrArg (fun k => List.getD ["", sNS] k "") ha)
    refine zx_catch (pc := 4) [] (0, 9, 12, 21) [] rfl (fun z hz => by cases hz) rfl (by decide) kcW_21 (zt2 (i := 238) rfl) (fun q => ?_)
    refine zs_astore_n (pc := 12) (ls2 := [_, _, _, _]) dW_formatEntry_12 (Nat.le_of_ble_eq_true rfl) rfl ?_
    refine zs_iconst (pc := 13) dW_formatEntry_13 zi_1 ?_
    exact zs_iret (pc := 14) dW_formatEntry_14 rfl rfl (by omega) (by omega) (⟨by rw [ha], o3, fun q q1 q2 => hq.2.1 q q1, hq.2.2, f0, (hq.2.1 r hr).trans h3, fun q => absurd q o1⟩)
theorem s_W_formatResults {Γ : zG} {l : Launch} (hl : l.stackTraces = false) {d : Nat} (hd : 10 ≤ d) {h : zH} {n : Nat} {B x c np : Nat} {g T : Nat → Nat} {P : Nat → Nat → Nat} {sv : Option (Nat → Nat)} {er fl : Option Nat} {L : List Nat} (hX : XR B h x g P c sv er fl T np L) (hB : B < 2 ^ 20) (y z : Int32) {r : Nat} {f0 : Nat → Int64} (hr : r < x ∨ x + 481 ≤ r) (h3 : h r = some (.inl (4, 1, .inr (.inl f0)))) : zC Γ l d mW_formatResults [.ref x, .int y, .int z, .ref r] h n 1 6 (zWq x r n h (aFmtR g y z).1 (((aFmtR g y z)).2).toInt64 (fun h1 => XR B h1 x g P c sv er fl T np (zLr g y z L))) := by
  have hX9 := hX
  obtain ⟨⟨st, hst, hx, htr⟩, -⟩ := hX
  refine zC_ofX (ls := [some (.ref x), some (.int y), some (.int z), some (.ref r), none]) hl (by decide +kernel) (by decide) (Nat.le_of_ble_eq_true rfl) rfl ?_
  refine zs_aload_n (pc := 0) dW_formatResults_0 rfl ?_
  refine zs_iconst (pc := 1) dW_formatResults_1 zi_0 ?_
  refine zs_aload_n (pc := 2) dW_formatResults_2 rfl ?_
  refine zs_iload_n (pc := 3) dW_formatResults_3 rfl ?_
  refine zs_iload_n (pc := 4) dW_formatResults_4 rfl ?_
  refine zcVR_2 (pc := 5) (d2 := d - 1) (s_X_formatResults hl (by omega) hX9 hB y z) dW_formatResults_5 kW_147 mdX_formatResults miX_formatResults mvX_formatResults rfl (by exact hx) rfl (Nat.le_of_ble_eq_true rfl) (by omega) (by omega) (by omega) (fun v h1 n1 hq => ?_) (fun E h1 n1 hq => ?_)
  · obtain ⟨o1, rfl, rfl⟩ := hq.1.l
    have o1 : (aFmtR g y z).1 = 0 := o1
    refine zs_i2l (pc := 8) dW_formatResults_8 ?_
    refine zs_last (pc := 9) dW_formatResults_9 (by exact (hq.2.1 r hr).trans h3) (vp_in_nI (by decide) (by decide)) ?_
    refine zs_goto (pc := 10) 17 dW_formatResults_10 rfl ?_
    refine zs_iconst (pc := 17) dW_formatResults_17 zi_0 ?_
    exact zs_iret (pc := 18) dW_formatResults_18 rfl rfl (by omega) (by omega) (⟨by rw [o1], Nat.le_refl _, fun q q1 q2 => (zu_n q2).trans (hq.2.1 q q1), XR.sm hq.2.2 (fun q g1 g2 => zu_n (by omega)), _, zu_s, fun _ => if_pos (by decide)⟩)
  · obtain ⟨o1, oE, o3⟩ := hq.1.r
    have o1 : (aFmtR g y z).1 ≠ 0 := o1
    have hlt : (aFmtR g y z).1 < 2 := by
        unfold aFmtR
        (repeat' split) <;> exact Nat.le_of_ble_eq_true rfl
    have ha : (aFmtR g y z).1 = 1 := by omega
    obtain rfl : E = sIA := oE.trans (congrArg (fun k => List.getD ["", sIA] k "") ha)
    refine zx_catch (pc := 5) [] (0, 10, 13, 13) [] rfl (fun z hz => by cases hz) rfl (by decide) kcW_13 (zt2 (i := 77) rfl) (fun q => ?_)
    refine zs_astore (pc := 13) (ls2 := [_, _, _, _, _]) dW_formatResults_13 (Nat.le_of_ble_eq_true rfl) rfl ?_
    refine zs_iconst (pc := 15) dW_formatResults_15 zi_1 ?_
    exact zs_iret (pc := 16) dW_formatResults_16 rfl rfl (by omega) (by omega) (⟨by rw [ha], o3, fun q q1 q2 => hq.2.1 q q1, hq.2.2, f0, (hq.2.1 r hr).trans h3, fun q => absurd q o1⟩)
theorem s_W_lineChar {Γ : zG} {l : Launch} (hl : l.stackTraces = false) {d : Nat} (hd : 10 ≤ d) {h : zH} {n : Nat} {B x c np : Nat} {g T : Nat → Nat} {P : Nat → Nat → Nat} {sv : Option (Nat → Nat)} {er fl : Option Nat} {L : List Nat} (hX : XR B h x g P c sv er fl T np L) (hB : B < 2 ^ 20) (hL4 : L.length ≤ 480) (hLc : ∀ c, c ∈ L → c < 128) (y : Int32) {r : Nat} {f0 : Nat → Int64} (hr : r < x ∨ x + 481 ≤ r) (h3 : h r = some (.inl (4, 1, .inr (.inl f0)))) : zC Γ l d mW_lineChar [.ref x, .int y, .ref r] h n 1 6 (zWq x r n h (aLine L y).1 (((aLine L y)).2).toInt64 (fun h1 => XR B h1 x g P c sv er fl T np L)) := by
  have hX9 := hX
  obtain ⟨⟨st, hst, hx, htr⟩, -⟩ := hX
  refine zC_ofX (ls := [some (.ref x), some (.int y), some (.ref r), none]) hl (by decide +kernel) (by decide) (Nat.le_of_ble_eq_true rfl) rfl ?_
  refine zs_aload_n (pc := 0) dW_lineChar_0 rfl ?_
  refine zs_iconst (pc := 1) dW_lineChar_1 zi_0 ?_
  refine zs_aload_n (pc := 2) dW_lineChar_2 rfl ?_
  refine zs_iload_n (pc := 3) dW_lineChar_3 rfl ?_
  refine zcVR_1 (pc := 4) (d2 := d - 1) (s_X_lineChar hl hX9 hB hL4 hLc y) dW_lineChar_4 kW_150 mdX_lineChar miX_lineChar mvX_lineChar rfl (by exact hx) rfl (Nat.le_of_ble_eq_true rfl) (by omega) (by omega) (by omega) (fun v h1 n1 hq => ?_) (fun E h1 n1 hq => ?_)
  · obtain ⟨o1, rfl, rfl⟩ := hq.1.l
    have o1 : (aLine L y).1 = 0 := o1
    refine zs_i2l (pc := 7) dW_lineChar_7 ?_
    refine zs_last (pc := 8) dW_lineChar_8 (by exact (hq.2.1 r hr).trans h3) (vp_in_nI (by decide) (by decide)) ?_
    refine zs_goto (pc := 9) 15 dW_lineChar_9 rfl ?_
    refine zs_iconst (pc := 15) dW_lineChar_15 zi_0 ?_
    exact zs_iret (pc := 16) dW_lineChar_16 rfl rfl (by omega) (by omega) (⟨by rw [o1], Nat.le_refl _, fun q q1 q2 => (zu_n q2).trans (hq.2.1 q q1), XR.sm hq.2.2 (fun q g1 g2 => zu_n (by omega)), _, zu_s, fun _ => if_pos (by decide)⟩)
  · obtain ⟨o1, oE, o3⟩ := hq.1.r
    have o1 : (aLine L y).1 ≠ 0 := o1
    have hlt : (aLine L y).1 < 2 := by
        unfold aLine
        (repeat' split) <;> exact Nat.le_of_ble_eq_true rfl
    have ha : (aLine L y).1 = 1 := by omega
    obtain rfl : E = sIB := oE.trans (congrArg (fun k => List.getD ["", sIB] k "") ha)
    refine zx_catch (pc := 4) [] (0, 9, 12, 42) [] rfl (fun z hz => by cases hz) rfl (by decide) kcW_42 (zt3 (i := 163) rfl) (fun q => ?_)
    refine zs_astore_n (pc := 12) (ls2 := [_, _, _, _]) dW_lineChar_12 (Nat.le_of_ble_eq_true rfl) rfl ?_
    refine zs_iconst (pc := 13) dW_lineChar_13 zi_1 ?_
    exact zs_iret (pc := 14) dW_lineChar_14 rfl rfl (by omega) (by omega) (⟨by rw [ha], o3, fun q q1 q2 => hq.2.1 q q1, hq.2.2, f0, (hq.2.1 r hr).trans h3, fun q => absurd q o1⟩)
theorem s_W_append {Γ : zG} {l : Launch} (hl : l.stackTraces = false) {d : Nat} (hd : 10 ≤ d) {h : zH} {n : Nat} {B x c np : Nat} {g T : Nat → Nat} {P : Nat → Nat → Nat} {sv : Option (Nat → Nat)} {er fl : Option Nat} {L : List Nat} (hX : XR B h x g P c sv er fl T np L) (hB : B < 2 ^ 20) {v : Nat} (hv : v < 65536) {r : Nat} {f0 : Nat → Int64} (hr : r < x ∨ x + 481 ≤ r) (h3 : h r = some (.inl (4, 1, .inr (.inl f0)))) : zC Γ l d mW_append [.ref x, .int (nI v), .ref r] h n 1 6 (zWq x r n h (aApp np v).1 (((aApp np v)).2).toInt64 (fun h1 => XR B h1 x g P c sv er fl (if (aApp np v).1 = 0 then zup T np v else T) (if (aApp np v).1 = 0 then np + 1 else np) L)) := by
  have hX9 := hX
  obtain ⟨⟨st, hst, hx, htr⟩, -⟩ := hX
  refine zC_ofX (ls := [some (.ref x), some (.int (nI v)), some (.ref r), none]) hl (by decide +kernel) (by decide) (Nat.le_of_ble_eq_true rfl) rfl ?_
  refine zs_aload_n (pc := 0) dW_append_0 rfl ?_
  refine zs_iconst (pc := 1) dW_append_1 zi_0 ?_
  refine zs_aload_n (pc := 2) dW_append_2 rfl ?_
  refine zs_iload_n (pc := 3) dW_append_3 rfl ?_
  refine zcVR_1 (pc := 4) (d2 := d - 1) (s_X_append hl (by omega) hX9 hB hv) dW_append_4 kW_154 mdX_append miX_append mvX_append rfl (by exact hx) rfl (Nat.le_of_ble_eq_true rfl) (by omega) (by omega) (by omega) (fun v h1 n1 hq => ?_) (fun E h1 n1 hq => ?_)
  · obtain ⟨o1, rfl, rfl⟩ := hq.1.l
    have o1 : (aApp np v).1 = 0 := o1
    refine zs_i2l (pc := 7) dW_append_7 ?_
    refine zs_last (pc := 8) dW_append_8 (by exact (hq.2.1 r hr).trans h3) (vp_in_nI (by decide) (by decide)) ?_
    refine zs_goto (pc := 9) 18 dW_append_9 rfl ?_
    refine zs_iconst (pc := 18) dW_append_18 zi_0 ?_
    exact zs_iret (pc := 19) dW_append_19 rfl rfl (by omega) (by omega) (⟨by rw [o1], Nat.le_refl _, fun q q1 q2 => (zu_n q2).trans (hq.2.1 q q1), XR.sm hq.2.2 (fun q g1 g2 => zu_n (by omega)), _, zu_s, fun _ => if_pos (by decide)⟩)
  · obtain ⟨o1, oE, o3⟩ := hq.1.r
    have o1 : (aApp np v).1 ≠ 0 := o1
    have hlt : (aApp np v).1 < 3 := by
        unfold aApp
        (repeat' split) <;> exact Nat.le_of_ble_eq_true rfl
    have ha : (aApp np v).1 = 1 ∨ (aApp np v).1 = 2 := by omega
    rcases ha with ha | ha
    · obtain rfl : E = sIA := oE.trans (congrArg (fun k => List.getD ["", sIA, sIS] k "") ha)
      refine zx_catch (pc := 4) [] (0, 9, 12, 13) [(0, 9, 15, 15)] rfl (fun z hz => by cases hz) rfl (by decide) kcW_13 (zt2 (i := 77) rfl) (fun q => ?_)
      refine zs_astore_n (pc := 12) (ls2 := [_, _, _, _]) dW_append_12 (Nat.le_of_ble_eq_true rfl) rfl ?_
      refine zs_iconst (pc := 13) dW_append_13 zi_1 ?_
      exact zs_iret (pc := 14) dW_append_14 rfl rfl (by omega) (by omega) (⟨by rw [ha], o3, fun q q1 q2 => hq.2.1 q q1, hq.2.2, f0, (hq.2.1 r hr).trans h3, fun q => absurd q o1⟩)
    · obtain rfl : E = sIS := oE.trans (congrArg (fun k => List.getD ["", sIA, sIS] k "") ha)
      refine zx_catch (pc := 4) [(0, 9, 12, 13)] (0, 9, 15, 15) [] rfl (by
          intro z hz
          rcases List.mem_cons.mp hz with rfl | hz
          · exact ⟨by decide, "java/lang/IllegalArgumentException", kcW_13, by decide +kernel⟩
          cases hz) rfl (by decide) kcW_15 (zt3 (i := 179) rfl) (fun q => ?_)
      refine zs_astore_n (pc := 15) (ls2 := [_, _, _, _]) dW_append_15 (Nat.le_of_ble_eq_true rfl) rfl ?_
      refine zs_iconst (pc := 16) dW_append_16 zi_2 ?_
      exact zs_iret (pc := 17) dW_append_17 rfl rfl (by omega) (by omega) (⟨by rw [ha], o3, fun q q1 q2 => hq.2.1 q q1, hq.2.2, f0, (hq.2.1 r hr).trans h3, fun q => absurd q o1⟩)
theorem s_W_run {Γ : zG} {l : Launch} (hl : l.stackTraces = false) {d : Nat} (hd : 10 ≤ d) {h : zH} {n : Nat} {B x c np : Nat} {g T : Nat → Nat} {P : Nat → Nat → Nat} {sv : Option (Nat → Nat)} {er fl : Option Nat} {L : List Nat} (hX : XR B h x g P c sv er fl T np L) (hB : B < 2 ^ 20) (hB2 : B + 300 < 2 ^ 20) {r : Nat} {f0 : Nat → Int64} (hr : r < x ∨ x + 481 ≤ r) (h3 : h r = some (.inl (4, 1, .inr (.inl f0)))) : zC Γ l d mW_run [.ref x, .ref r] h n 1 6 (zWq x r n h (zrunO g T np er fl).1.1 (((zrunO g T np er fl).1).2).toInt64 (fun h1 => XR (B + 300) h1 x (zrunO g T np er fl).2.1 (zkP (zrunO g T np er fl).1.1 P c g) (zkc (zrunO g T np er fl).1.1 c) sv (zrunO g T np er fl).2.2.1 (zrunO g T np er fl).2.2.2 T 0 L)) := by
  have hX9 := hX
  obtain ⟨⟨st, hst, hx, htr⟩, -⟩ := hX
  refine zC_ofX (ls := [some (.ref x), some (.ref r), none]) hl (by decide +kernel) (by decide) (Nat.le_of_ble_eq_true rfl) rfl ?_
  refine zs_aload_n (pc := 0) dW_run_0 rfl ?_
  refine zs_iconst (pc := 1) dW_run_1 zi_0 ?_
  refine zs_aload_n (pc := 2) dW_run_2 rfl ?_
  refine zcVR_0 (pc := 3) (d2 := d - 1) (s_X_run hl (by omega) hX9 hB hB2) dW_run_3 kW_158 mdX_run miX_run mvX_run rfl (by exact hx) rfl (Nat.le_of_ble_eq_true rfl) (by omega) (by omega) (by omega) (fun v h1 n1 hq => ?_) (fun E h1 n1 hq => ?_)
  · obtain ⟨o1, rfl, rfl⟩ := hq.1.l
    have o1 : (zrunO g T np er fl).1.1 = 0 := o1
    refine zs_i2l (pc := 6) dW_run_6 ?_
    refine zs_last (pc := 7) dW_run_7 (by exact (hq.2.1 r hr).trans h3) (vp_in_nI (by decide) (by decide)) ?_
    refine zs_goto (pc := 8) 17 dW_run_8 rfl ?_
    refine zs_iconst (pc := 17) dW_run_17 zi_0 ?_
    exact zs_iret (pc := 18) dW_run_18 rfl rfl (by omega) (by omega) (⟨by rw [o1], Nat.le_refl _, fun q q1 q2 => (zu_n q2).trans (hq.2.1 q q1), XR.sm hq.2.2 (fun q g1 g2 => zu_n (by omega)), _, zu_s, fun _ => if_pos (by decide)⟩)
  · obtain ⟨o1, oE, o3⟩ := hq.1.r
    have o1 : (zrunO g T np er fl).1.1 ≠ 0 := o1
    have hlt : (zrunO g T np er fl).1.1 < 3 := by
        unfold zrunO
        (repeat' split) <;> exact Nat.le_of_ble_eq_true rfl
    have ha : (zrunO g T np er fl).1.1 = 1 ∨ (zrunO g T np er fl).1.1 = 2 := by omega
    rcases ha with ha | ha
    · obtain rfl : E = sIA := oE.trans (congrArg (fun k => List.getD ["", sIA, sIS] k "") ha)
      refine zx_catch (pc := 3) [] (0, 8, 11, 13) [(0, 8, 14, 15)] rfl (fun z hz => by cases hz) rfl (by decide) kcW_13 (zt2 (i := 77) rfl) (fun q => ?_)
      refine zs_astore_n (pc := 11) (ls2 := [_, _, _]) dW_run_11 (Nat.le_of_ble_eq_true rfl) rfl ?_
      refine zs_iconst (pc := 12) dW_run_12 zi_1 ?_
      exact zs_iret (pc := 13) dW_run_13 rfl rfl (by omega) (by omega) (⟨by rw [ha], o3, fun q q1 q2 => hq.2.1 q q1, hq.2.2, f0, (hq.2.1 r hr).trans h3, fun q => absurd q o1⟩)
    · obtain rfl : E = sIS := oE.trans (congrArg (fun k => List.getD ["", sIA, sIS] k "") ha)
      refine zx_catch (pc := 3) [(0, 8, 11, 13)] (0, 8, 14, 15) [] rfl (by
          intro z hz
          rcases List.mem_cons.mp hz with rfl | hz
          · exact ⟨by decide, "java/lang/IllegalArgumentException", kcW_13, by decide +kernel⟩
          cases hz) rfl (by decide) kcW_15 (zt3 (i := 179) rfl) (fun q => ?_)
      refine zs_astore_n (pc := 14) (ls2 := [_, _, _]) dW_run_14 (Nat.le_of_ble_eq_true rfl) rfl ?_
      refine zs_iconst (pc := 15) dW_run_15 zi_2 ?_
      exact zs_iret (pc := 16) dW_run_16 rfl rfl (by omega) (by omega) (⟨by rw [ha], o3, fun q q1 q2 => hq.2.1 q q1, hq.2.2, f0, (hq.2.1 r hr).trans h3, fun q => absurd q o1⟩)
theorem s_W_errorPosition {Γ : zG} {l : Launch} (hl : l.stackTraces = false) {d : Nat} (hd : 10 ≤ d) {h : zH} {n : Nat} {B x c np : Nat} {g T : Nat → Nat} {P : Nat → Nat → Nat} {sv : Option (Nat → Nat)} {er fl : Option Nat} {L : List Nat} (hX : XR B h x g P c sv er fl T np L) (hB : B < 2 ^ 20)        (hb : ∀ p, er = some p → p < 2 ^ 20) {r : Nat} {f0 : Nat → Int64} (hr : r < x ∨ x + 481 ≤ r) (h3 : h r = some (.inl (4, 1, .inr (.inl f0)))) : zC Γ l d mW_errorPosition [.ref x, .ref r] h n 1 6 (zWq x r n h (aErrorPosition er).1 (((aErrorPosition er)).2).toInt64 (fun h1 => XR B h1 x g P c sv er fl T np L)) := by
  have hX9 := hX
  obtain ⟨⟨st, hst, hx, htr⟩, -⟩ := hX
  refine zC_ofX (ls := [some (.ref x), some (.ref r), none]) hl (by decide +kernel) (by decide) (Nat.le_of_ble_eq_true rfl) rfl ?_
  refine zs_aload_n (pc := 0) dW_errorPosition_0 rfl ?_
  refine zs_iconst (pc := 1) dW_errorPosition_1 zi_0 ?_
  refine zs_aload_n (pc := 2) dW_errorPosition_2 rfl ?_
  refine zcVR_0 (pc := 3) (d2 := d - 1) (s_X_errorPosition hl hX9 hb) dW_errorPosition_3 kW_161 mdX_errorPosition miX_errorPosition mvX_errorPosition rfl (by exact hx) rfl (Nat.le_of_ble_eq_true rfl) (by omega) (by omega) (by omega) (fun v h1 n1 hq => ?_) (fun E h1 n1 hq => ?_)
  · obtain ⟨o1, rfl, rfl⟩ := hq.1.l
    have o1 : (aErrorPosition er).1 = 0 := o1
    refine zs_i2l (pc := 6) dW_errorPosition_6 ?_
    refine zs_last (pc := 7) dW_errorPosition_7 (by exact (hq.2.1 r hr).trans h3) (vp_in_nI (by decide) (by decide)) ?_
    refine zs_goto (pc := 8) 14 dW_errorPosition_8 rfl ?_
    refine zs_iconst (pc := 14) dW_errorPosition_14 zi_0 ?_
    exact zs_iret (pc := 15) dW_errorPosition_15 rfl rfl (by omega) (by omega) (⟨by rw [o1], Nat.le_refl _, fun q q1 q2 => (zu_n q2).trans (hq.2.1 q q1), XR.sm hq.2.2 (fun q g1 g2 => zu_n (by omega)), _, zu_s, fun _ => if_pos (by decide)⟩)
  · obtain ⟨o1, oE, o3⟩ := hq.1.r
    have o1 : (aErrorPosition er).1 ≠ 0 := o1
    have hlt : (aErrorPosition er).1 < 2 := by
        unfold aErrorPosition
        (repeat' split) <;> exact Nat.le_of_ble_eq_true rfl
    have ha : (aErrorPosition er).1 = 1 := by omega
    obtain rfl : E = sNS := oE.trans (congrArg (fun k => List.getD ["", sNS] k "") ha)
    refine zx_catch (pc := 3) [] (0, 8, 11, 21) [] rfl (fun z hz => by cases hz) rfl (by decide) kcW_21 (zt2 (i := 238) rfl) (fun q => ?_)
    refine zs_astore_n (pc := 11) (ls2 := [_, _, _]) dW_errorPosition_11 (Nat.le_of_ble_eq_true rfl) rfl ?_
    refine zs_iconst (pc := 12) dW_errorPosition_12 zi_1 ?_
    exact zs_iret (pc := 13) dW_errorPosition_13 rfl rfl (by omega) (by omega) (⟨by rw [ha], o3, fun q q1 q2 => hq.2.1 q q1, hq.2.2, f0, (hq.2.1 r hr).trans h3, fun q => absurd q o1⟩)
theorem s_W_failedCommand {Γ : zG} {l : Launch} (hl : l.stackTraces = false) {d : Nat} (hd : 10 ≤ d) {h : zH} {n : Nat} {B x c np : Nat} {g T : Nat → Nat} {P : Nat → Nat → Nat} {sv : Option (Nat → Nat)} {er fl : Option Nat} {L : List Nat} (hX : XR B h x g P c sv er fl T np L) (hB : B < 2 ^ 20)        (hb : ∀ p, fl = some p → p < 2 ^ 20) {r : Nat} {f0 : Nat → Int64} (hr : r < x ∨ x + 481 ≤ r) (h3 : h r = some (.inl (4, 1, .inr (.inl f0)))) : zC Γ l d mW_failedCommand [.ref x, .ref r] h n 1 6 (zWq x r n h (aFailedCommand fl).1 (((aFailedCommand fl)).2).toInt64 (fun h1 => XR B h1 x g P c sv er fl T np L)) := by
  have hX9 := hX
  obtain ⟨⟨st, hst, hx, htr⟩, -⟩ := hX
  refine zC_ofX (ls := [some (.ref x), some (.ref r), none]) hl (by decide +kernel) (by decide) (Nat.le_of_ble_eq_true rfl) rfl ?_
  refine zs_aload_n (pc := 0) dW_failedCommand_0 rfl ?_
  refine zs_iconst (pc := 1) dW_failedCommand_1 zi_0 ?_
  refine zs_aload_n (pc := 2) dW_failedCommand_2 rfl ?_
  refine zcVR_0 (pc := 3) (d2 := d - 1) (s_X_failedCommand hl hX9 hb) dW_failedCommand_3 kW_164 mdX_failedCommand miX_failedCommand mvX_failedCommand rfl (by exact hx) rfl (Nat.le_of_ble_eq_true rfl) (by omega) (by omega) (by omega) (fun v h1 n1 hq => ?_) (fun E h1 n1 hq => ?_)
  · obtain ⟨o1, rfl, rfl⟩ := hq.1.l
    have o1 : (aFailedCommand fl).1 = 0 := o1
    refine zs_i2l (pc := 6) dW_failedCommand_6 ?_
    refine zs_last (pc := 7) dW_failedCommand_7 (by exact (hq.2.1 r hr).trans h3) (vp_in_nI (by decide) (by decide)) ?_
    refine zs_goto (pc := 8) 14 dW_failedCommand_8 rfl ?_
    refine zs_iconst (pc := 14) dW_failedCommand_14 zi_0 ?_
    exact zs_iret (pc := 15) dW_failedCommand_15 rfl rfl (by omega) (by omega) (⟨by rw [o1], Nat.le_refl _, fun q q1 q2 => (zu_n q2).trans (hq.2.1 q q1), XR.sm hq.2.2 (fun q g1 g2 => zu_n (by omega)), _, zu_s, fun _ => if_pos (by decide)⟩)
  · obtain ⟨o1, oE, o3⟩ := hq.1.r
    have o1 : (aFailedCommand fl).1 ≠ 0 := o1
    have hlt : (aFailedCommand fl).1 < 2 := by
        unfold aFailedCommand
        (repeat' split) <;> exact Nat.le_of_ble_eq_true rfl
    have ha : (aFailedCommand fl).1 = 1 := by omega
    obtain rfl : E = sNS := oE.trans (congrArg (fun k => List.getD ["", sNS] k "") ha)
    refine zx_catch (pc := 3) [] (0, 8, 11, 21) [] rfl (fun z hz => by cases hz) rfl (by decide) kcW_21 (zt2 (i := 238) rfl) (fun q => ?_)
    refine zs_astore_n (pc := 11) (ls2 := [_, _, _]) dW_failedCommand_11 (Nat.le_of_ble_eq_true rfl) rfl ?_
    refine zs_iconst (pc := 12) dW_failedCommand_12 zi_1 ?_
    exact zs_iret (pc := 13) dW_failedCommand_13 rfl rfl (by omega) (by omega) (⟨by rw [ha], o3, fun q q1 q2 => hq.2.1 q q1, hq.2.2, f0, (hq.2.1 r hr).trans h3, fun q => absurd q o1⟩)
theorem s_W_undo {Γ : zG} {l : Launch} (hl : l.stackTraces = false) {d : Nat} (hd : 10 ≤ d) {h : zH} {n : Nat} {B x c np : Nat} {g T : Nat → Nat} {P : Nat → Nat → Nat} {sv : Option (Nat → Nat)} {er fl : Option Nat} {L : List Nat} (hX : XR B h x g P c sv er fl T np L) (hB : B < 2 ^ 20)  {r : Nat} {f0 : Nat → Int64} (hr : r < x ∨ x + 481 ≤ r) (h3 : h r = some (.inl (4, 1, .inr (.inl f0)))) : zC Γ l d mW_undo [.ref x, .ref r] h n 1 6 (zWq x r n h (aUndo c).1 (((aUndo c)).2).toInt64 (fun h1 => XR B h1 x (if c = 0 then g else P (c - 1)) P (c - 1) sv er fl T np L)) := by
  have hX9 := hX
  obtain ⟨⟨st, hst, hx, htr⟩, -⟩ := hX
  refine zC_ofX (ls := [some (.ref x), some (.ref r), none]) hl (by decide +kernel) (by decide) (Nat.le_of_ble_eq_true rfl) rfl ?_
  refine zs_aload_n (pc := 0) dW_undo_0 rfl ?_
  refine zs_iconst (pc := 1) dW_undo_1 zi_0 ?_
  refine zs_aload_n (pc := 2) dW_undo_2 rfl ?_
  refine zcVR_0 (pc := 3) (d2 := d - 1) (s_X_undo hl (by omega) hX9 hB) dW_undo_3 kW_167 mdX_undo miX_undo mvX_undo rfl (by exact hx) rfl (Nat.le_of_ble_eq_true rfl) (by omega) (by omega) (by omega) (fun v h1 n1 hq => ?_) (fun E h1 n1 hq => ?_)
  · obtain ⟨o1, rfl, rfl⟩ := hq.1.l
    have o1 : (aUndo c).1 = 0 := o1
    refine zs_i2l (pc := 6) dW_undo_6 ?_
    refine zs_last (pc := 7) dW_undo_7 (by exact (hq.2.1 r hr).trans h3) (vp_in_nI (by decide) (by decide)) ?_
    refine zs_goto (pc := 8) 14 dW_undo_8 rfl ?_
    refine zs_iconst (pc := 14) dW_undo_14 zi_0 ?_
    exact zs_iret (pc := 15) dW_undo_15 rfl rfl (by omega) (by omega) (⟨by rw [o1], Nat.le_refl _, fun q q1 q2 => (zu_n q2).trans (hq.2.1 q q1), XR.sm hq.2.2 (fun q g1 g2 => zu_n (by omega)), _, zu_s, fun _ => if_pos (by decide)⟩)
  · obtain ⟨o1, oE, o3⟩ := hq.1.r
    have o1 : (aUndo c).1 ≠ 0 := o1
    have hlt : (aUndo c).1 < 2 := by
        unfold aUndo
        (repeat' split) <;> exact Nat.le_of_ble_eq_true rfl
    have ha : (aUndo c).1 = 1 := by omega
    obtain rfl : E = sIS := oE.trans (congrArg (fun k => List.getD ["", sIS] k "") ha)
    refine zx_catch (pc := 3) [] (0, 8, 11, 15) [] rfl (fun z hz => by cases hz) rfl (by decide) kcW_15 (zt3 (i := 179) rfl) (fun q => ?_)
    refine zs_astore_n (pc := 11) (ls2 := [_, _, _]) dW_undo_11 (Nat.le_of_ble_eq_true rfl) rfl ?_
    refine zs_iconst (pc := 12) dW_undo_12 zi_1 ?_
    exact zs_iret (pc := 13) dW_undo_13 rfl rfl (by omega) (by omega) (⟨by rw [ha], o3, fun q q1 q2 => hq.2.1 q q1, hq.2.2, f0, (hq.2.1 r hr).trans h3, fun q => absurd q o1⟩)
theorem s_W_restore {Γ : zG} {l : Launch} (hl : l.stackTraces = false) {d : Nat} (hd : 10 ≤ d) {h : zH} {n : Nat} {B x c np : Nat} {g T : Nat → Nat} {P : Nat → Nat → Nat} {sv : Option (Nat → Nat)} {er fl : Option Nat} {L : List Nat} (hX : XR B h x g P c sv er fl T np L) (hB : B < 2 ^ 20)  {r : Nat} {f0 : Nat → Int64} (hr : r < x ∨ x + 481 ≤ r) (h3 : h r = some (.inl (4, 1, .inr (.inl f0)))) : zC Γ l d mW_restore [.ref x, .ref r] h n 1 6 (zWq x r n h (aRest sv).1 (((aRest sv)).2).toInt64 (fun h1 => XR B h1 x (sv.getD g) P (if sv.isSome = true then 0 else c) sv er fl T np L)) := by
  have hX9 := hX
  obtain ⟨⟨st, hst, hx, htr⟩, -⟩ := hX
  refine zC_ofX (ls := [some (.ref x), some (.ref r), none]) hl (by decide +kernel) (by decide) (Nat.le_of_ble_eq_true rfl) rfl ?_
  refine zs_aload_n (pc := 0) dW_restore_0 rfl ?_
  refine zs_iconst (pc := 1) dW_restore_1 zi_0 ?_
  refine zs_aload_n (pc := 2) dW_restore_2 rfl ?_
  refine zcVR_0 (pc := 3) (d2 := d - 1) (s_X_restore hl (by omega) hX9 hB) dW_restore_3 kW_170 mdX_restore miX_restore mvX_restore rfl (by exact hx) rfl (Nat.le_of_ble_eq_true rfl) (by omega) (by omega) (by omega) (fun v h1 n1 hq => ?_) (fun E h1 n1 hq => ?_)
  · obtain ⟨o1, rfl, rfl⟩ := hq.1.l
    have o1 : (aRest sv).1 = 0 := o1
    refine zs_i2l (pc := 6) dW_restore_6 ?_
    refine zs_last (pc := 7) dW_restore_7 (by exact (hq.2.1 r hr).trans h3) (vp_in_nI (by decide) (by decide)) ?_
    refine zs_goto (pc := 8) 14 dW_restore_8 rfl ?_
    refine zs_iconst (pc := 14) dW_restore_14 zi_0 ?_
    exact zs_iret (pc := 15) dW_restore_15 rfl rfl (by omega) (by omega) (⟨by rw [o1], Nat.le_refl _, fun q q1 q2 => (zu_n q2).trans (hq.2.1 q q1), XR.sm hq.2.2 (fun q g1 g2 => zu_n (by omega)), _, zu_s, fun _ => if_pos (by decide)⟩)
  · obtain ⟨o1, oE, o3⟩ := hq.1.r
    have o1 : (aRest sv).1 ≠ 0 := o1
    have hlt : (aRest sv).1 < 2 := by
        unfold aRest
        (repeat' split) <;> exact Nat.le_of_ble_eq_true rfl
    have ha : (aRest sv).1 = 1 := by omega
    obtain rfl : E = sIS := oE.trans (congrArg (fun k => List.getD ["", sIS] k "") ha)
    refine zx_catch (pc := 3) [] (0, 8, 11, 15) [] rfl (fun z hz => by cases hz) rfl (by decide) kcW_15 (zt3 (i := 179) rfl) (fun q => ?_)
    refine zs_astore_n (pc := 11) (ls2 := [_, _, _]) dW_restore_11 (Nat.le_of_ble_eq_true rfl) rfl ?_
    refine zs_iconst (pc := 12) dW_restore_12 zi_1 ?_
    exact zs_iret (pc := 13) dW_restore_13 rfl rfl (by omega) (by omega) (⟨by rw [ha], o3, fun q q1 q2 => hq.2.1 q q1, hq.2.2, f0, (hq.2.1 r hr).trans h3, fun q => absurd q o1⟩)

