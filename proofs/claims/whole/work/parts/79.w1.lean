/-! what holds behind a wrapper -/
theorem XR.sm {B : Nat} {h h1 : zH} {x c np : Nat} {g T : Nat → Nat} {P : Nat → Nat → Nat} {sv : Option (Nat → Nat)} {er fl : Option Nat} {L : List Nat} (hX : XR B h x g P c sv er fl T np L) (hk : ∀ q, x ≤ q → q < x + 481 → h1 q = h q) : XR B h1 x g P c sv er fl T np L := by
  obtain ⟨⟨st, hst, hx, htr⟩, hR, hI, hsv, hH, hrk, hpg, hn60, hTc, hL, hag⟩ := hX
  exact ⟨⟨st, hst, by rw [hk x (Nat.le_refl _) (by omega)]; exact hx, htr.sm (fun q q1 q2 => hk q (by omega) (by omega))⟩, hR.sm (fun q q1 q2 => hk q (by omega) (by omega)), hI, hsv.sm (fun q q1 q2 => hk q (by omega) (by omega)), hH.sm (fun q q1 q2 => hk q (by omega) (by omega)), hrk.sm (fun q q1 q2 => hk q (by omega) (by omega)), hpg.sm (fun q q1 q2 => hk q (by omega) (by omega)), hn60, hTc, hL.sm (fun q q1 q2 => hk q (by omega) (by omega)), hag.sm (fun q q1 q2 => hk q (by omega) (by omega))⟩
def zWq (x r n : Nat) (h : zH) (e : Nat) (v : Int64) (R : zH → Prop) : zQ := fun o h1 n1 => o = .inl (some (.int (nI e))) ∧ n ≤ n1 ∧ (∀ q, (q < x ∨ x + 481 ≤ q) → q ≠ r → h1 q = h q) ∧ R h1 ∧ ∃ f : Nat → Int64, h1 r = some (.inl (4, 1, .inr (.inl f))) ∧ (e = 0 → f 0 = v)
def zWqD (x r n : Nat) (h : zH) (e : Nat) (v : UInt64) (R : zH → Prop) : zQ := fun o h1 n1 => o = .inl (some (.int (nI e))) ∧ n ≤ n1 ∧ (∀ q, (q < x ∨ x + 481 ≤ q) → q ≠ r → h1 q = h q) ∧ R h1 ∧ ∃ f : Nat → UInt64, h1 r = some (.inl (5, 1, .inr (.inr (.inr (.inl f))))) ∧ (e = 0 → f 0 = v)
theorem s_W_addEntry {Γ : zG} {l : Launch} (hl : l.stackTraces = false) {d : Nat} (hd : 10 ≤ d) {h : zH} {n : Nat} {B x c np : Nat} {g T : Nat → Nat} {P : Nat → Nat → Nat} {sv : Option (Nat → Nat)} {er fl : Option Nat} {L : List Nat} (hX : XR B h x g P c sv er fl T np L) (hB : B < 2 ^ 20) (y : Int32) {r : Nat} {f0 : Nat → Int64} (hr : r < x ∨ x + 481 ≤ r) (h3 : h r = some (.inl (4, 1, .inr (.inl f0)))) : zC Γ l d mW_addEntry [.ref x, .int y, .ref r] h n 1 6 (zWq x r n h (zdo g 0 y (nI 0)).1 (zans 0 (zdo g 0 y (nI 0))).toInt64 (fun h1 => XR (B + 20) h1 x (zdo g 0 y (nI 0)).2.2 (zkP (zdo g 0 y (nI 0)).1 P c g) (zkc (zdo g 0 y (nI 0)).1 c) sv er fl T np L)) := by
  have hX9 := hX
  obtain ⟨⟨st, hst, hx, htr⟩, -⟩ := hX
  refine zC_ofX (ls := [some (.ref x), some (.int y), some (.ref r), none]) hl (by decide +kernel) (by decide) (Nat.le_of_ble_eq_true rfl) rfl ?_
  refine zs_aload_n (pc := 0) dW_addEntry_0 rfl ?_
  refine zs_iconst (pc := 1) dW_addEntry_1 zi_0 ?_
  refine zs_aload_n (pc := 2) dW_addEntry_2 rfl ?_
  refine zs_iload_n (pc := 3) dW_addEntry_3 rfl ?_
  refine zcVR_1 (pc := 4) (d2 := d - 1) (s_X_addEntry hl (by omega) hX9 hB y) dW_addEntry_4 kW_7 mdX_addEntry miX_addEntry mvX_addEntry rfl (by exact hx) rfl (Nat.le_of_ble_eq_true rfl) (by omega) (by omega) (by omega) (fun v h1 n1 hq => ?_) (fun E h1 n1 hq => ?_)
  · obtain ⟨o1, rfl, rfl⟩ := hq.1.l
    have o1 : (zdo g 0 y (nI 0)).1 = 0 := o1
    refine zs_i2l (pc := 7) dW_addEntry_7 ?_
    refine zs_last (pc := 8) dW_addEntry_8 (by exact (hq.2.1 r hr).trans h3) (vp_in_nI (by decide) (by decide)) ?_
    refine zs_goto (pc := 9) 18 dW_addEntry_9 rfl ?_
    refine zs_iconst (pc := 18) dW_addEntry_18 zi_0 ?_
    exact zs_iret (pc := 19) dW_addEntry_19 rfl rfl (by omega) (by omega) (⟨by rw [o1], Nat.le_refl _, fun q q1 q2 => (zu_n q2).trans (hq.2.1 q q1), XR.sm hq.2.2 (fun q g1 g2 => zu_n (by omega)), _, zu_s, fun _ => if_pos (by decide)⟩)
  · obtain ⟨o1, oE, o3⟩ := hq.1.r
    have o1 : (zdo g 0 y (nI 0)).1 ≠ 0 := o1
    have hlt : (zdo g 0 y (nI 0)).1 < 3 := (zdo_lim (g := g) (k := 0) (by decide) _ _).1
    have ha : (zdo g 0 y (nI 0)).1 = 1 ∨ (zdo g 0 y (nI 0)).1 = 2 := by omega
    rcases ha with ha | ha
    · obtain rfl : E = sIA := oE.trans (congrArg (fun k => List.getD (zEs 0) k "") ha)
      refine zx_catch (pc := 4) [] (0, 9, 12, 13) [(0, 9, 15, 15)] rfl (fun z hz => by cases hz) rfl (by decide) kcW_13 (zt2 (i := 77) rfl) (fun q => ?_)
      refine zs_astore_n (pc := 12) (ls2 := [_, _, _, _]) dW_addEntry_12 (Nat.le_of_ble_eq_true rfl) rfl ?_
      refine zs_iconst (pc := 13) dW_addEntry_13 zi_1 ?_
      exact zs_iret (pc := 14) dW_addEntry_14 rfl rfl (by omega) (by omega) (⟨by rw [ha], o3, fun q q1 q2 => hq.2.1 q q1, hq.2.2, f0, (hq.2.1 r hr).trans h3, fun q => absurd q o1⟩)
    · obtain rfl : E = sIS := oE.trans (congrArg (fun k => List.getD (zEs 0) k "") ha)
      refine zx_catch (pc := 4) [(0, 9, 12, 13)] (0, 9, 15, 15) [] rfl (by
          intro z hz
          rcases List.mem_cons.mp hz with rfl | hz
          · exact ⟨by decide, "java/lang/IllegalArgumentException", kcW_13, by decide +kernel⟩
          cases hz) rfl (by decide) kcW_15 (zt3 (i := 179) rfl) (fun q => ?_)
      refine zs_astore_n (pc := 15) (ls2 := [_, _, _, _]) dW_addEntry_15 (Nat.le_of_ble_eq_true rfl) rfl ?_
      refine zs_iconst (pc := 16) dW_addEntry_16 zi_2 ?_
      exact zs_iret (pc := 17) dW_addEntry_17 rfl rfl (by omega) (by omega) (⟨by rw [ha], o3, fun q q1 q2 => hq.2.1 q q1, hq.2.2, f0, (hq.2.1 r hr).trans h3, fun q => absurd q o1⟩)
theorem s_W_addCode {Γ : zG} {l : Launch} (hl : l.stackTraces = false) {d : Nat} (hd : 10 ≤ d) {h : zH} {n : Nat} {B x c np : Nat} {g T : Nat → Nat} {P : Nat → Nat → Nat} {sv : Option (Nat → Nat)} {er fl : Option Nat} {L : List Nat} (hX : XR B h x g P c sv er fl T np L) (hB : B < 2 ^ 20) (y z : Int32) {r : Nat} {f0 : Nat → Int64} (hr : r < x ∨ x + 481 ≤ r) (h3 : h r = some (.inl (4, 1, .inr (.inl f0)))) : zC Γ l d mW_addCode [.ref x, .int y, .int z, .ref r] h n 1 6 (zWq x r n h (zdo g 1 y z).1 (zans 1 (zdo g 1 y z)).toInt64 (fun h1 => XR (B + 20) h1 x (zdo g 1 y z).2.2 (zkP (zdo g 1 y z).1 P c g) (zkc (zdo g 1 y z).1 c) sv er fl T np L)) := by
  have hX9 := hX
  obtain ⟨⟨st, hst, hx, htr⟩, -⟩ := hX
  refine zC_ofX (ls := [some (.ref x), some (.int y), some (.int z), some (.ref r), none]) hl (by decide +kernel) (by decide) (Nat.le_of_ble_eq_true rfl) rfl ?_
  refine zs_aload_n (pc := 0) dW_addCode_0 rfl ?_
  refine zs_iconst (pc := 1) dW_addCode_1 zi_0 ?_
  refine zs_aload_n (pc := 2) dW_addCode_2 rfl ?_
  refine zs_iload_n (pc := 3) dW_addCode_3 rfl ?_
  refine zs_iload_n (pc := 4) dW_addCode_4 rfl ?_
  refine zcVR_2 (pc := 5) (d2 := d - 1) (s_X_addCode hl (by omega) hX9 hB y z) dW_addCode_5 kW_17 mdX_addCode miX_addCode mvX_addCode rfl (by exact hx) rfl (Nat.le_of_ble_eq_true rfl) (by omega) (by omega) (by omega) (fun v h1 n1 hq => ?_) (fun E h1 n1 hq => ?_)
  · obtain ⟨o1, rfl, rfl⟩ := hq.1.l
    have o1 : (zdo g 1 y z).1 = 0 := o1
    refine zs_i2l (pc := 8) dW_addCode_8 ?_
    refine zs_last (pc := 9) dW_addCode_9 (by exact (hq.2.1 r hr).trans h3) (vp_in_nI (by decide) (by decide)) ?_
    refine zs_goto (pc := 10) 25 dW_addCode_10 rfl ?_
    refine zs_iconst (pc := 25) dW_addCode_25 zi_0 ?_
    exact zs_iret (pc := 26) dW_addCode_26 rfl rfl (by omega) (by omega) (⟨by rw [o1], Nat.le_refl _, fun q q1 q2 => (zu_n q2).trans (hq.2.1 q q1), XR.sm hq.2.2 (fun q g1 g2 => zu_n (by omega)), _, zu_s, fun _ => if_pos (by decide)⟩)
  · obtain ⟨o1, oE, o3⟩ := hq.1.r
    have o1 : (zdo g 1 y z).1 ≠ 0 := o1
    have hlt : (zdo g 1 y z).1 < 4 := (zdo_lim (g := g) (k := 1) (by decide) _ _).1
    have ha : (zdo g 1 y z).1 = 1 ∨ (zdo g 1 y z).1 = 2 ∨ (zdo g 1 y z).1 = 3 := by omega
    rcases ha with ha | ha | ha
    · obtain rfl : E = sNS := oE.trans (congrArg (fun k => List.getD (zEs 1) k "") ha)
      refine zx_catch (pc := 5) [] (0, 10, 13, 21) [(0, 10, 17, 13), (0, 10, 21, 15)] rfl (fun z hz => by cases hz) rfl (by decide) kcW_21 (zt2 (i := 238) rfl) (fun q => ?_)
      refine zs_astore (pc := 13) (ls2 := [_, _, _, _, _]) dW_addCode_13 (Nat.le_of_ble_eq_true rfl) rfl ?_
      refine zs_iconst (pc := 15) dW_addCode_15 zi_1 ?_
      exact zs_iret (pc := 16) dW_addCode_16 rfl rfl (by omega) (by omega) (⟨by rw [ha], o3, fun q q1 q2 => hq.2.1 q q1, hq.2.2, f0, (hq.2.1 r hr).trans h3, fun q => absurd q o1⟩)
    · obtain rfl : E = sIA := oE.trans (congrArg (fun k => List.getD (zEs 1) k "") ha)
      refine zx_catch (pc := 5) [(0, 10, 13, 21)] (0, 10, 17, 13) [(0, 10, 21, 15)] rfl (by
          intro z hz
          rcases List.mem_cons.mp hz with rfl | hz
          · exact ⟨by decide, "java/util/NoSuchElementException", kcW_21, by decide +kernel⟩
          cases hz) rfl (by decide) kcW_13 (zt2 (i := 77) rfl) (fun q => ?_)
      refine zs_astore (pc := 17) (ls2 := [_, _, _, _, _]) dW_addCode_17 (Nat.le_of_ble_eq_true rfl) rfl ?_
      refine zs_iconst (pc := 19) dW_addCode_19 zi_2 ?_
      exact zs_iret (pc := 20) dW_addCode_20 rfl rfl (by omega) (by omega) (⟨by rw [ha], o3, fun q q1 q2 => hq.2.1 q q1, hq.2.2, f0, (hq.2.1 r hr).trans h3, fun q => absurd q o1⟩)
    · obtain rfl : E = sIS := oE.trans (congrArg (fun k => List.getD (zEs 1) k "") ha)
      refine zx_catch (pc := 5) [(0, 10, 13, 21), (0, 10, 17, 13)] (0, 10, 21, 15) [] rfl (by
          intro z hz
          rcases List.mem_cons.mp hz with rfl | hz
          · exact ⟨by decide, "java/util/NoSuchElementException", kcW_21, by decide +kernel⟩
          rcases List.mem_cons.mp hz with rfl | hz
          · exact ⟨by decide, "java/lang/IllegalArgumentException", kcW_13, by decide +kernel⟩
          cases hz) rfl (by decide) kcW_15 (zt3 (i := 179) rfl) (fun q => ?_)
      refine zs_astore (pc := 21) (ls2 := [_, _, _, _, _]) dW_addCode_21 (Nat.le_of_ble_eq_true rfl) rfl ?_
      refine zs_iconst (pc := 23) dW_addCode_23 zi_3 ?_
      exact zs_iret (pc := 24) dW_addCode_24 rfl rfl (by omega) (by omega) (⟨by rw [ha], o3, fun q q1 q2 => hq.2.1 q q1, hq.2.2, f0, (hq.2.1 r hr).trans h3, fun q => absurd q o1⟩)
theorem s_W_removeCode {Γ : zG} {l : Launch} (hl : l.stackTraces = false) {d : Nat} (hd : 10 ≤ d) {h : zH} {n : Nat} {B x c np : Nat} {g T : Nat → Nat} {P : Nat → Nat → Nat} {sv : Option (Nat → Nat)} {er fl : Option Nat} {L : List Nat} (hX : XR B h x g P c sv er fl T np L) (hB : B < 2 ^ 20) (y z : Int32) {r : Nat} {f0 : Nat → Int64} (hr : r < x ∨ x + 481 ≤ r) (h3 : h r = some (.inl (4, 1, .inr (.inl f0)))) : zC Γ l d mW_removeCode [.ref x, .int y, .int z, .ref r] h n 1 6 (zWq x r n h (zdo g 2 y z).1 (zans 2 (zdo g 2 y z)).toInt64 (fun h1 => XR (B + 20) h1 x (zdo g 2 y z).2.2 (zkP (zdo g 2 y z).1 P c g) (zkc (zdo g 2 y z).1 c) sv er fl T np L)) := by
  have hX9 := hX
  obtain ⟨⟨st, hst, hx, htr⟩, -⟩ := hX
  refine zC_ofX (ls := [some (.ref x), some (.int y), some (.int z), some (.ref r), none]) hl (by decide +kernel) (by decide) (Nat.le_of_ble_eq_true rfl) rfl ?_
  refine zs_aload_n (pc := 0) dW_removeCode_0 rfl ?_
  refine zs_iconst (pc := 1) dW_removeCode_1 zi_0 ?_
  refine zs_aload_n (pc := 2) dW_removeCode_2 rfl ?_
  refine zs_iload_n (pc := 3) dW_removeCode_3 rfl ?_
  refine zs_iload_n (pc := 4) dW_removeCode_4 rfl ?_
  refine zcVR_2 (pc := 5) (d2 := d - 1) (s_X_removeCode hl (by omega) hX9 hB y z) dW_removeCode_5 kW_23 mdX_removeCode miX_removeCode mvX_removeCode rfl (by exact hx) rfl (Nat.le_of_ble_eq_true rfl) (by omega) (by omega) (by omega) (fun v h1 n1 hq => ?_) (fun E h1 n1 hq => ?_)
  · obtain ⟨o1, rfl, rfl⟩ := hq.1.l
    have o1 : (zdo g 2 y z).1 = 0 := o1
    refine zs_i2l (pc := 8) dW_removeCode_8 ?_
    refine zs_last (pc := 9) dW_removeCode_9 (by exact (hq.2.1 r hr).trans h3) (vp_in_nI (by decide) (by decide)) ?_
    refine zs_goto (pc := 10) 25 dW_removeCode_10 rfl ?_
    refine zs_iconst (pc := 25) dW_removeCode_25 zi_0 ?_
    exact zs_iret (pc := 26) dW_removeCode_26 rfl rfl (by omega) (by omega) (⟨by rw [o1], Nat.le_refl _, fun q q1 q2 => (zu_n q2).trans (hq.2.1 q q1), XR.sm hq.2.2 (fun q g1 g2 => zu_n (by omega)), _, zu_s, fun _ => if_pos (by decide)⟩)
  · obtain ⟨o1, oE, o3⟩ := hq.1.r
    have o1 : (zdo g 2 y z).1 ≠ 0 := o1
    have hlt : (zdo g 2 y z).1 < 4 := (zdo_lim (g := g) (k := 2) (by decide) _ _).1
    have ha : (zdo g 2 y z).1 = 1 ∨ (zdo g 2 y z).1 = 2 ∨ (zdo g 2 y z).1 = 3 := by omega
    rcases ha with ha | ha | ha
    · obtain rfl : E = sNS := oE.trans (congrArg (fun k => List.getD (zEs 2) k "") ha)
      refine zx_catch (pc := 5) [] (0, 10, 13, 21) [(0, 10, 17, 13), (0, 10, 21, 15)] rfl (fun z hz => by cases hz) rfl (by decide) kcW_21 (zt2 (i := 238) rfl) (fun q => ?_)
      refine zs_astore (pc := 13) (ls2 := [_, _, _, _, _]) dW_removeCode_13 (Nat.le_of_ble_eq_true rfl) rfl ?_
      refine zs_iconst (pc := 15) dW_removeCode_15 zi_1 ?_
      exact zs_iret (pc := 16) dW_removeCode_16 rfl rfl (by omega) (by omega) (⟨by rw [ha], o3, fun q q1 q2 => hq.2.1 q q1, hq.2.2, f0, (hq.2.1 r hr).trans h3, fun q => absurd q o1⟩)
    · obtain rfl : E = sIA := oE.trans (congrArg (fun k => List.getD (zEs 2) k "") ha)
      refine zx_catch (pc := 5) [(0, 10, 13, 21)] (0, 10, 17, 13) [(0, 10, 21, 15)] rfl (by
          intro z hz
          rcases List.mem_cons.mp hz with rfl | hz
          · exact ⟨by decide, "java/util/NoSuchElementException", kcW_21, by decide +kernel⟩
          cases hz) rfl (by decide) kcW_13 (zt2 (i := 77) rfl) (fun q => ?_)
      refine zs_astore (pc := 17) (ls2 := [_, _, _, _, _]) dW_removeCode_17 (Nat.le_of_ble_eq_true rfl) rfl ?_
      refine zs_iconst (pc := 19) dW_removeCode_19 zi_2 ?_
      exact zs_iret (pc := 20) dW_removeCode_20 rfl rfl (by omega) (by omega) (⟨by rw [ha], o3, fun q q1 q2 => hq.2.1 q q1, hq.2.2, f0, (hq.2.1 r hr).trans h3, fun q => absurd q o1⟩)
    · obtain rfl : E = sIS := oE.trans (congrArg (fun k => List.getD (zEs 2) k "") ha)
      refine zx_catch (pc := 5) [(0, 10, 13, 21), (0, 10, 17, 13)] (0, 10, 21, 15) [] rfl (by
          intro z hz
          rcases List.mem_cons.mp hz with rfl | hz
          · exact ⟨by decide, "java/util/NoSuchElementException", kcW_21, by decide +kernel⟩
          rcases List.mem_cons.mp hz with rfl | hz
          · exact ⟨by decide, "java/lang/IllegalArgumentException", kcW_13, by decide +kernel⟩
          cases hz) rfl (by decide) kcW_15 (zt3 (i := 179) rfl) (fun q => ?_)
      refine zs_astore (pc := 21) (ls2 := [_, _, _, _, _]) dW_removeCode_21 (Nat.le_of_ble_eq_true rfl) rfl ?_
      refine zs_iconst (pc := 23) dW_removeCode_23 zi_3 ?_
      exact zs_iret (pc := 24) dW_removeCode_24 rfl rfl (by omega) (by omega) (⟨by rw [ha], o3, fun q q1 q2 => hq.2.1 q q1, hq.2.2, f0, (hq.2.1 r hr).trans h3, fun q => absurd q o1⟩)
theorem s_W_removeEntry {Γ : zG} {l : Launch} (hl : l.stackTraces = false) {d : Nat} (hd : 10 ≤ d) {h : zH} {n : Nat} {B x c np : Nat} {g T : Nat → Nat} {P : Nat → Nat → Nat} {sv : Option (Nat → Nat)} {er fl : Option Nat} {L : List Nat} (hX : XR B h x g P c sv er fl T np L) (hB : B < 2 ^ 20) (y : Int32) {r : Nat} {f0 : Nat → Int64} (hr : r < x ∨ x + 481 ≤ r) (h3 : h r = some (.inl (4, 1, .inr (.inl f0)))) : zC Γ l d mW_removeEntry [.ref x, .int y, .ref r] h n 1 6 (zWq x r n h (zdo g 3 y (nI 0)).1 (zans 3 (zdo g 3 y (nI 0))).toInt64 (fun h1 => XR (B + 20) h1 x (zdo g 3 y (nI 0)).2.2 (zkP (zdo g 3 y (nI 0)).1 P c g) (zkc (zdo g 3 y (nI 0)).1 c) sv er fl T np L)) := by
  have hX9 := hX
  obtain ⟨⟨st, hst, hx, htr⟩, -⟩ := hX
  refine zC_ofX (ls := [some (.ref x), some (.int y), some (.ref r), none]) hl (by decide +kernel) (by decide) (Nat.le_of_ble_eq_true rfl) rfl ?_
  refine zs_aload_n (pc := 0) dW_removeEntry_0 rfl ?_
  refine zs_iconst (pc := 1) dW_removeEntry_1 zi_0 ?_
  refine zs_aload_n (pc := 2) dW_removeEntry_2 rfl ?_
  refine zs_iload_n (pc := 3) dW_removeEntry_3 rfl ?_
  refine zcVR_1 (pc := 4) (d2 := d - 1) (s_X_removeEntry hl (by omega) hX9 hB y) dW_removeEntry_4 kW_26 mdX_removeEntry miX_removeEntry mvX_removeEntry rfl (by exact hx) rfl (Nat.le_of_ble_eq_true rfl) (by omega) (by omega) (by omega) (fun v h1 n1 hq => ?_) (fun E h1 n1 hq => ?_)
  · obtain ⟨o1, rfl, rfl⟩ := hq.1.l
    have o1 : (zdo g 3 y (nI 0)).1 = 0 := o1
    refine zs_i2l (pc := 7) dW_removeEntry_7 ?_
    refine zs_last (pc := 8) dW_removeEntry_8 (by exact (hq.2.1 r hr).trans h3) (vp_in_nI (by decide) (by decide)) ?_
    refine zs_goto (pc := 9) 15 dW_removeEntry_9 rfl ?_
    refine zs_iconst (pc := 15) dW_removeEntry_15 zi_0 ?_
    exact zs_iret (pc := 16) dW_removeEntry_16 rfl rfl (by omega) (by omega) (⟨by rw [o1], Nat.le_refl _, fun q q1 q2 => (zu_n q2).trans (hq.2.1 q q1), XR.sm hq.2.2 (fun q g1 g2 => zu_n (by omega)), _, zu_s, fun _ => if_pos (by decide)⟩)
  · obtain ⟨o1, oE, o3⟩ := hq.1.r
    have o1 : (zdo g 3 y (nI 0)).1 ≠ 0 := o1
    have hlt : (zdo g 3 y (nI 0)).1 < 2 := (zdo_lim (g := g) (k := 3) (by decide) _ _).1
    have ha : (zdo g 3 y (nI 0)).1 = 1 := by omega
    obtain rfl : E = sNS := oE.trans (congrArg (fun k => List.getD (zEs 3) k "") ha)
    refine zx_catch (pc := 4) [] (0, 9, 12, 21) [] rfl (fun z hz => by cases hz) rfl (by decide) kcW_21 (zt2 (i := 238) rfl) (fun q => ?_)
    refine zs_astore_n (pc := 12) (ls2 := [_, _, _, _]) dW_removeEntry_12 (Nat.le_of_ble_eq_true rfl) rfl ?_
    refine zs_iconst (pc := 13) dW_removeEntry_13 zi_1 ?_
    exact zs_iret (pc := 14) dW_removeEntry_14 rfl rfl (by omega) (by omega) (⟨by rw [ha], o3, fun q q1 q2 => hq.2.1 q q1, hq.2.2, f0, (hq.2.1 r hr).trans h3, fun q => absurd q o1⟩)
theorem s_W_touch {Γ : zG} {l : Launch} (hl : l.stackTraces = false) {d : Nat} (hd : 10 ≤ d) {h : zH} {n : Nat} {B x c np : Nat} {g T : Nat → Nat} {P : Nat → Nat → Nat} {sv : Option (Nat → Nat)} {er fl : Option Nat} {L : List Nat} (hX : XR B h x g P c sv er fl T np L) (hB : B < 2 ^ 20) (y : Int32) {r : Nat} {f0 : Nat → Int64} (hr : r < x ∨ x + 481 ≤ r) (h3 : h r = some (.inl (4, 1, .inr (.inl f0)))) : zC Γ l d mW_touch [.ref x, .int y, .ref r] h n 1 6 (zWq x r n h (zdo g 4 y (nI 0)).1 (zans 4 (zdo g 4 y (nI 0))).toInt64 (fun h1 => XR (B + 20) h1 x (zdo g 4 y (nI 0)).2.2 (zkP (zdo g 4 y (nI 0)).1 P c g) (zkc (zdo g 4 y (nI 0)).1 c) sv er fl T np L)) := by
  have hX9 := hX
  obtain ⟨⟨st, hst, hx, htr⟩, -⟩ := hX
  refine zC_ofX (ls := [some (.ref x), some (.int y), some (.ref r), none]) hl (by decide +kernel) (by decide) (Nat.le_of_ble_eq_true rfl) rfl ?_
  refine zs_aload_n (pc := 0) dW_touch_0 rfl ?_
  refine zs_iconst (pc := 1) dW_touch_1 zi_0 ?_
  refine zs_aload_n (pc := 2) dW_touch_2 rfl ?_
  refine zs_iload_n (pc := 3) dW_touch_3 rfl ?_
  refine zcVR_1 (pc := 4) (d2 := d - 1) (s_X_touch hl (by omega) hX9 hB y) dW_touch_4 kW_29 mdX_touch miX_touch mvX_touch rfl (by exact hx) rfl (Nat.le_of_ble_eq_true rfl) (by omega) (by omega) (by omega) (fun v h1 n1 hq => ?_) (fun E h1 n1 hq => ?_)
  · obtain ⟨o1, rfl, rfl⟩ := hq.1.l
    have o1 : (zdo g 4 y (nI 0)).1 = 0 := o1
    refine zs_i2l (pc := 7) dW_touch_7 ?_
    refine zs_last (pc := 8) dW_touch_8 (by exact (hq.2.1 r hr).trans h3) (vp_in_nI (by decide) (by decide)) ?_
    refine zs_goto (pc := 9) 15 dW_touch_9 rfl ?_
    refine zs_iconst (pc := 15) dW_touch_15 zi_0 ?_
    exact zs_iret (pc := 16) dW_touch_16 rfl rfl (by omega) (by omega) (⟨by rw [o1], Nat.le_refl _, fun q q1 q2 => (zu_n q2).trans (hq.2.1 q q1), XR.sm hq.2.2 (fun q g1 g2 => zu_n (by omega)), _, zu_s, fun _ => if_pos (by decide)⟩)
  · obtain ⟨o1, oE, o3⟩ := hq.1.r
    have o1 : (zdo g 4 y (nI 0)).1 ≠ 0 := o1
    have hlt : (zdo g 4 y (nI 0)).1 < 2 := (zdo_lim (g := g) (k := 4) (by decide) _ _).1
    have ha : (zdo g 4 y (nI 0)).1 = 1 := by omega
    obtain rfl : E = sNS := oE.trans (congrArg (fun k => List.getD (zEs 4) k "") ha)
    refine zx_catch (pc := 4) [] (0, 9, 12, 21) [] rfl (fun z hz => by cases hz) rfl (by decide) kcW_21 (zt2 (i := 238) rfl) (fun q => ?_)
    refine zs_astore_n (pc := 12) (ls2 := [_, _, _, _]) dW_touch_12 (Nat.le_of_ble_eq_true rfl) rfl ?_
    refine zs_iconst (pc := 13) dW_touch_13 zi_1 ?_
    exact zs_iret (pc := 14) dW_touch_14 rfl rfl (by omega) (by omega) (⟨by rw [ha], o3, fun q q1 q2 => hq.2.1 q q1, hq.2.2, f0, (hq.2.1 r hr).trans h3, fun q => absurd q o1⟩)
theorem s_W_merge {Γ : zG} {l : Launch} (hl : l.stackTraces = false) {d : Nat} (hd : 10 ≤ d) {h : zH} {n : Nat} {B x c np : Nat} {g T : Nat → Nat} {P : Nat → Nat → Nat} {sv : Option (Nat → Nat)} {er fl : Option Nat} {L : List Nat} (hX : XR B h x g P c sv er fl T np L) (hB : B < 2 ^ 20) (y z : Int32) {r : Nat} {f0 : Nat → Int64} (hr : r < x ∨ x + 481 ≤ r) (h3 : h r = some (.inl (4, 1, .inr (.inl f0)))) : zC Γ l d mW_merge [.ref x, .int y, .int z, .ref r] h n 1 6 (zWq x r n h (zdo g 5 y z).1 (zans 5 (zdo g 5 y z)).toInt64 (fun h1 => XR (B + 20) h1 x (zdo g 5 y z).2.2 (zkP (zdo g 5 y z).1 P c g) (zkc (zdo g 5 y z).1 c) sv er fl T np L)) := by
  have hX9 := hX
  obtain ⟨⟨st, hst, hx, htr⟩, -⟩ := hX
  refine zC_ofX (ls := [some (.ref x), some (.int y), some (.int z), some (.ref r), none]) hl (by decide +kernel) (by decide) (Nat.le_of_ble_eq_true rfl) rfl ?_
  refine zs_aload_n (pc := 0) dW_merge_0 rfl ?_
  refine zs_iconst (pc := 1) dW_merge_1 zi_0 ?_
  refine zs_aload_n (pc := 2) dW_merge_2 rfl ?_
  refine zs_iload_n (pc := 3) dW_merge_3 rfl ?_
  refine zs_iload_n (pc := 4) dW_merge_4 rfl ?_
  refine zcVR_2 (pc := 5) (d2 := d - 1) (s_X_merge hl (by omega) hX9 hB y z) dW_merge_5 kW_32 mdX_merge miX_merge mvX_merge rfl (by exact hx) rfl (Nat.le_of_ble_eq_true rfl) (by omega) (by omega) (by omega) (fun v h1 n1 hq => ?_) (fun E h1 n1 hq => ?_)
  · obtain ⟨o1, rfl, rfl⟩ := hq.1.l
    have o1 : (zdo g 5 y z).1 = 0 := o1
    refine zs_i2l (pc := 8) dW_merge_8 ?_
    refine zs_last (pc := 9) dW_merge_9 (by exact (hq.2.1 r hr).trans h3) (vp_in_nI (by decide) (by decide)) ?_
    refine zs_goto (pc := 10) 25 dW_merge_10 rfl ?_
    refine zs_iconst (pc := 25) dW_merge_25 zi_0 ?_
    exact zs_iret (pc := 26) dW_merge_26 rfl rfl (by omega) (by omega) (⟨by rw [o1], Nat.le_refl _, fun q q1 q2 => (zu_n q2).trans (hq.2.1 q q1), XR.sm hq.2.2 (fun q g1 g2 => zu_n (by omega)), _, zu_s, fun _ => if_pos (by decide)⟩)
  · obtain ⟨o1, oE, o3⟩ := hq.1.r
    have o1 : (zdo g 5 y z).1 ≠ 0 := o1
    have hlt : (zdo g 5 y z).1 < 4 := (zdo_lim (g := g) (k := 5) (by decide) _ _).1
    have ha : (zdo g 5 y z).1 = 1 ∨ (zdo g 5 y z).1 = 2 ∨ (zdo g 5 y z).1 = 3 := by omega
    rcases ha with ha | ha | ha
    · obtain rfl : E = sNS := oE.trans (congrArg (fun k => List.getD (zEs 5) k "") ha)
      refine zx_catch (pc := 5) [] (0, 10, 13, 21) [(0, 10, 17, 13), (0, 10, 21, 15)] rfl (fun z hz => by cases hz) rfl (by decide) kcW_21 (zt2 (i := 238) rfl) (fun q => ?_)
      refine zs_astore (pc := 13) (ls2 := [_, _, _, _, _]) dW_merge_13 (Nat.le_of_ble_eq_true rfl) rfl ?_
      refine zs_iconst (pc := 15) dW_merge_15 zi_1 ?_
      exact zs_iret (pc := 16) dW_merge_16 rfl rfl (by omega) (by omega) (⟨by rw [ha], o3, fun q q1 q2 => hq.2.1 q q1, hq.2.2, f0, (hq.2.1 r hr).trans h3, fun q => absurd q o1⟩)
    · obtain rfl : E = sIA := oE.trans (congrArg (fun k => List.getD (zEs 5) k "") ha)
      refine zx_catch (pc := 5) [(0, 10, 13, 21)] (0, 10, 17, 13) [(0, 10, 21, 15)] rfl (by
          intro z hz
          rcases List.mem_cons.mp hz with rfl | hz
          · exact ⟨by decide, "java/util/NoSuchElementException", kcW_21, by decide +kernel⟩
          cases hz) rfl (by decide) kcW_13 (zt2 (i := 77) rfl) (fun q => ?_)
      refine zs_astore (pc := 17) (ls2 := [_, _, _, _, _]) dW_merge_17 (Nat.le_of_ble_eq_true rfl) rfl ?_
      refine zs_iconst (pc := 19) dW_merge_19 zi_2 ?_
      exact zs_iret (pc := 20) dW_merge_20 rfl rfl (by omega) (by omega) (⟨by rw [ha], o3, fun q q1 q2 => hq.2.1 q q1, hq.2.2, f0, (hq.2.1 r hr).trans h3, fun q => absurd q o1⟩)
    · obtain rfl : E = sIS := oE.trans (congrArg (fun k => List.getD (zEs 5) k "") ha)
      refine zx_catch (pc := 5) [(0, 10, 13, 21), (0, 10, 17, 13)] (0, 10, 21, 15) [] rfl (by
          intro z hz
          rcases List.mem_cons.mp hz with rfl | hz
          · exact ⟨by decide, "java/util/NoSuchElementException", kcW_21, by decide +kernel⟩
          rcases List.mem_cons.mp hz with rfl | hz
          · exact ⟨by decide, "java/lang/IllegalArgumentException", kcW_13, by decide +kernel⟩
          cases hz) rfl (by decide) kcW_15 (zt3 (i := 179) rfl) (fun q => ?_)
      refine zs_astore (pc := 21) (ls2 := [_, _, _, _, _]) dW_merge_21 (Nat.le_of_ble_eq_true rfl) rfl ?_
      refine zs_iconst (pc := 23) dW_merge_23 zi_3 ?_
      exact zs_iret (pc := 24) dW_merge_24 rfl rfl (by omega) (by omega) (⟨by rw [ha], o3, fun q q1 q2 => hq.2.1 q q1, hq.2.2, f0, (hq.2.1 r hr).trans h3, fun q => absurd q o1⟩)
theorem s_W_startSegment {Γ : zG} {l : Launch} (hl : l.stackTraces = false) {d : Nat} (hd : 10 ≤ d) {h : zH} {n : Nat} {B x c np : Nat} {g T : Nat → Nat} {P : Nat → Nat → Nat} {sv : Option (Nat → Nat)} {er fl : Option Nat} {L : List Nat} (hX : XR B h x g P c sv er fl T np L) (hB : B < 2 ^ 20)  {r : Nat} {f0 : Nat → Int64} (hr : r < x ∨ x + 481 ≤ r) (h3 : h r = some (.inl (4, 1, .inr (.inl f0)))) : zC Γ l d mW_startSegment [.ref x, .ref r] h n 1 6 (zWq x r n h (zdo g 6 (nI 0) (nI 0)).1 (zans 6 (zdo g 6 (nI 0) (nI 0))).toInt64 (fun h1 => XR (B + 20) h1 x (zdo g 6 (nI 0) (nI 0)).2.2 (zkP (zdo g 6 (nI 0) (nI 0)).1 P c g) (zkc (zdo g 6 (nI 0) (nI 0)).1 c) sv er fl T np L)) := by
  have hX9 := hX
  obtain ⟨⟨st, hst, hx, htr⟩, -⟩ := hX
  refine zC_ofX (ls := [some (.ref x), some (.ref r), none]) hl (by decide +kernel) (by decide) (Nat.le_of_ble_eq_true rfl) rfl ?_
  refine zs_aload_n (pc := 0) dW_startSegment_0 rfl ?_
  refine zs_iconst (pc := 1) dW_startSegment_1 zi_0 ?_
  refine zs_aload_n (pc := 2) dW_startSegment_2 rfl ?_
  refine zcVR_0 (pc := 3) (d2 := d - 1) (s_X_startSegment hl (by omega) hX9 hB) dW_startSegment_3 kW_35 mdX_startSegment miX_startSegment mvX_startSegment rfl (by exact hx) rfl (Nat.le_of_ble_eq_true rfl) (by omega) (by omega) (by omega) (fun v h1 n1 hq => ?_) (fun E h1 n1 hq => ?_)
  · obtain ⟨o1, rfl, rfl⟩ := hq.1.l
    have o1 : (zdo g 6 (nI 0) (nI 0)).1 = 0 := o1
    refine zs_i2l (pc := 6) dW_startSegment_6 ?_
    refine zs_last (pc := 7) dW_startSegment_7 (by exact (hq.2.1 r hr).trans h3) (vp_in_nI (by decide) (by decide)) ?_
    refine zs_goto (pc := 8) 14 dW_startSegment_8 rfl ?_
    refine zs_iconst (pc := 14) dW_startSegment_14 zi_0 ?_
    exact zs_iret (pc := 15) dW_startSegment_15 rfl rfl (by omega) (by omega) (⟨by rw [o1], Nat.le_refl _, fun q q1 q2 => (zu_n q2).trans (hq.2.1 q q1), XR.sm hq.2.2 (fun q g1 g2 => zu_n (by omega)), _, zu_s, fun _ => if_pos (by decide)⟩)
  · obtain ⟨o1, oE, o3⟩ := hq.1.r
    have o1 : (zdo g 6 (nI 0) (nI 0)).1 ≠ 0 := o1
    have hlt : (zdo g 6 (nI 0) (nI 0)).1 < 2 := (zdo_lim (g := g) (k := 6) (by decide) _ _).1
    have ha : (zdo g 6 (nI 0) (nI 0)).1 = 1 := by omega
    obtain rfl : E = sIS := oE.trans (congrArg (fun k => List.getD (zEs 6) k "") ha)
    refine zx_catch (pc := 3) [] (0, 8, 11, 15) [] rfl (fun z hz => by cases hz) rfl (by decide) kcW_15 (zt3 (i := 179) rfl) (fun q => ?_)
    refine zs_astore_n (pc := 11) (ls2 := [_, _, _]) dW_startSegment_11 (Nat.le_of_ble_eq_true rfl) rfl ?_
    refine zs_iconst (pc := 12) dW_startSegment_12 zi_1 ?_
    exact zs_iret (pc := 13) dW_startSegment_13 rfl rfl (by omega) (by omega) (⟨by rw [ha], o3, fun q q1 q2 => hq.2.1 q q1, hq.2.2, f0, (hq.2.1 r hr).trans h3, fun q => absurd q o1⟩)
theorem s_W_joinSegments {Γ : zG} {l : Launch} (hl : l.stackTraces = false) {d : Nat} (hd : 10 ≤ d) {h : zH} {n : Nat} {B x c np : Nat} {g T : Nat → Nat} {P : Nat → Nat → Nat} {sv : Option (Nat → Nat)} {er fl : Option Nat} {L : List Nat} (hX : XR B h x g P c sv er fl T np L) (hB : B < 2 ^ 20) (y : Int32) {r : Nat} {f0 : Nat → Int64} (hr : r < x ∨ x + 481 ≤ r) (h3 : h r = some (.inl (4, 1, .inr (.inl f0)))) : zC Γ l d mW_joinSegments [.ref x, .int y, .ref r] h n 1 6 (zWq x r n h (zdo g 7 y (nI 0)).1 (zans 7 (zdo g 7 y (nI 0))).toInt64 (fun h1 => XR (B + 20) h1 x (zdo g 7 y (nI 0)).2.2 (zkP (zdo g 7 y (nI 0)).1 P c g) (zkc (zdo g 7 y (nI 0)).1 c) sv er fl T np L)) := by
  have hX9 := hX
  obtain ⟨⟨st, hst, hx, htr⟩, -⟩ := hX
  refine zC_ofX (ls := [some (.ref x), some (.int y), some (.ref r), none]) hl (by decide +kernel) (by decide) (Nat.le_of_ble_eq_true rfl) rfl ?_
  refine zs_aload_n (pc := 0) dW_joinSegments_0 rfl ?_
  refine zs_iconst (pc := 1) dW_joinSegments_1 zi_0 ?_
  refine zs_aload_n (pc := 2) dW_joinSegments_2 rfl ?_
  refine zs_iload_n (pc := 3) dW_joinSegments_3 rfl ?_
  refine zcVR_1 (pc := 4) (d2 := d - 1) (s_X_joinSegments hl (by omega) hX9 hB y) dW_joinSegments_4 kW_39 mdX_joinSegments miX_joinSegments mvX_joinSegments rfl (by exact hx) rfl (Nat.le_of_ble_eq_true rfl) (by omega) (by omega) (by omega) (fun v h1 n1 hq => ?_) (fun E h1 n1 hq => ?_)
  · obtain ⟨o1, rfl, rfl⟩ := hq.1.l
    have o1 : (zdo g 7 y (nI 0)).1 = 0 := o1
    refine zs_i2l (pc := 7) dW_joinSegments_7 ?_
    refine zs_last (pc := 8) dW_joinSegments_8 (by exact (hq.2.1 r hr).trans h3) (vp_in_nI (by decide) (by decide)) ?_
    refine zs_goto (pc := 9) 18 dW_joinSegments_9 rfl ?_
    refine zs_iconst (pc := 18) dW_joinSegments_18 zi_0 ?_
    exact zs_iret (pc := 19) dW_joinSegments_19 rfl rfl (by omega) (by omega) (⟨by rw [o1], Nat.le_refl _, fun q q1 q2 => (zu_n q2).trans (hq.2.1 q q1), XR.sm hq.2.2 (fun q g1 g2 => zu_n (by omega)), _, zu_s, fun _ => if_pos (by decide)⟩)
  · obtain ⟨o1, oE, o3⟩ := hq.1.r
    have o1 : (zdo g 7 y (nI 0)).1 ≠ 0 := o1
    have hlt : (zdo g 7 y (nI 0)).1 < 3 := (zdo_lim (g := g) (k := 7) (by decide) _ _).1
    have ha : (zdo g 7 y (nI 0)).1 = 1 ∨ (zdo g 7 y (nI 0)).1 = 2 := by omega
    rcases ha with ha | ha
    · obtain rfl : E = sIB := oE.trans (congrArg (fun k => List.getD (zEs 7) k "") ha)
      refine zx_catch (pc := 4) [] (0, 9, 12, 42) [(0, 9, 15, 15)] rfl (fun z hz => by cases hz) rfl (by decide) kcW_42 (zt3 (i := 163) rfl) (fun q => ?_)
      refine zs_astore_n (pc := 12) (ls2 := [_, _, _, _]) dW_joinSegments_12 (Nat.le_of_ble_eq_true rfl) rfl ?_
      refine zs_iconst (pc := 13) dW_joinSegments_13 zi_1 ?_
      exact zs_iret (pc := 14) dW_joinSegments_14 rfl rfl (by omega) (by omega) (⟨by rw [ha], o3, fun q q1 q2 => hq.2.1 q q1, hq.2.2, f0, (hq.2.1 r hr).trans h3, fun q => absurd q o1⟩)
    · obtain rfl : E = sIS := oE.trans (congrArg (fun k => List.getD (zEs 7) k "") ha)
      refine zx_catch (pc := 4) [(0, 9, 12, 42)] (0, 9, 15, 15) [] rfl (by
          intro z hz
          rcases List.mem_cons.mp hz with rfl | hz
          · exact ⟨by decide, "java/lang/IndexOutOfBoundsException", kcW_42, by decide +kernel⟩
          cases hz) rfl (by decide) kcW_15 (zt3 (i := 179) rfl) (fun q => ?_)
      refine zs_astore_n (pc := 15) (ls2 := [_, _, _, _]) dW_joinSegments_15 (Nat.le_of_ble_eq_true rfl) rfl ?_
      refine zs_iconst (pc := 16) dW_joinSegments_16 zi_2 ?_
      exact zs_iret (pc := 17) dW_joinSegments_17 rfl rfl (by omega) (by omega) (⟨by rw [ha], o3, fun q q1 q2 => hq.2.1 q q1, hq.2.2, f0, (hq.2.1 r hr).trans h3, fun q => absurd q o1⟩)
theorem s_W_search {Γ : zG} {l : Launch} (hl : l.stackTraces = false) {d : Nat} (hd : 10 ≤ d) {h : zH} {n : Nat} {B x c np : Nat} {g T : Nat → Nat} {P : Nat → Nat → Nat} {sv : Option (Nat → Nat)} {er fl : Option Nat} {L : List Nat} (hX : XR B h x g P c sv er fl T np L) (hB : B < 2 ^ 20) (y z : Int32) {r : Nat} {f0 : Nat → Int64} (hr : r < x ∨ x + 481 ≤ r) (h3 : h r = some (.inl (4, 1, .inr (.inl f0)))) : zC Γ l d mW_search [.ref x, .int y, .int z, .ref r] h n 1 6 (zWq x r n h (zdo g 8 y z).1 (zans 8 (zdo g 8 y z)).toInt64 (fun h1 => XR (B + 20) h1 x (zdo g 8 y z).2.2 (zkP (zdo g 8 y z).1 P c g) (zkc (zdo g 8 y z).1 c) sv er fl T np L)) := by
  have hX9 := hX
  obtain ⟨⟨st, hst, hx, htr⟩, -⟩ := hX
  refine zC_ofX (ls := [some (.ref x), some (.int y), some (.int z), some (.ref r), none]) hl (by decide +kernel) (by decide) (Nat.le_of_ble_eq_true rfl) rfl ?_
  refine zs_aload_n (pc := 0) dW_search_0 rfl ?_
  refine zs_iconst (pc := 1) dW_search_1 zi_0 ?_
  refine zs_aload_n (pc := 2) dW_search_2 rfl ?_
  refine zs_iload_n (pc := 3) dW_search_3 rfl ?_
  refine zs_iload_n (pc := 4) dW_search_4 rfl ?_
  refine zcVR_2 (pc := 5) (d2 := d - 1) (s_X_search hl (by omega) hX9 hB y z) dW_search_5 kW_44 mdX_search miX_search mvX_search rfl (by exact hx) rfl (Nat.le_of_ble_eq_true rfl) (by omega) (by omega) (by omega) (fun v h1 n1 hq => ?_) (fun E h1 n1 hq => ?_)
  · obtain ⟨o1, rfl, rfl⟩ := hq.1.l
    have o1 : (zdo g 8 y z).1 = 0 := o1
    refine zs_i2l (pc := 8) dW_search_8 ?_
    refine zs_last (pc := 9) dW_search_9 (by exact (hq.2.1 r hr).trans h3) (vp_in_nI (by decide) (by decide)) ?_
    refine zs_goto (pc := 10) 17 dW_search_10 rfl ?_
    refine zs_iconst (pc := 17) dW_search_17 zi_0 ?_
    exact zs_iret (pc := 18) dW_search_18 rfl rfl (by omega) (by omega) (⟨by rw [o1], Nat.le_refl _, fun q q1 q2 => (zu_n q2).trans (hq.2.1 q q1), XR.sm hq.2.2 (fun q g1 g2 => zu_n (by omega)), _, zu_s, fun _ => if_pos (by decide)⟩)
  · obtain ⟨o1, oE, o3⟩ := hq.1.r
    have o1 : (zdo g 8 y z).1 ≠ 0 := o1
    have hlt : (zdo g 8 y z).1 < 2 := (zdo_lim (g := g) (k := 8) (by decide) _ _).1
    have ha : (zdo g 8 y z).1 = 1 := by omega
    obtain rfl : E = sIA := oE.trans (congrArg (fun k => List.getD (zEs 8) k "") ha)
    refine zx_catch (pc := 5) [] (0, 10, 13, 13) [] rfl (fun z hz => by cases hz) rfl (by decide) kcW_13 (zt2 (i := 77) rfl) (fun q => ?_)
    refine zs_astore (pc := 13) (ls2 := [_, _, _, _, _]) dW_search_13 (Nat.le_of_ble_eq_true rfl) rfl ?_
    refine zs_iconst (pc := 15) dW_search_15 zi_1 ?_
    exact zs_iret (pc := 16) dW_search_16 rfl rfl (by omega) (by omega) (⟨by rw [ha], o3, fun q q1 q2 => hq.2.1 q q1, hq.2.2, f0, (hq.2.1 r hr).trans h3, fun q => absurd q o1⟩)
theorem s_W_pass {Γ : zG} {l : Launch} (hl : l.stackTraces = false) {d : Nat} (hd : 10 ≤ d) {h : zH} {n : Nat} {B x c np : Nat} {g T : Nat → Nat} {P : Nat → Nat → Nat} {sv : Option (Nat → Nat)} {er fl : Option Nat} {L : List Nat} (hX : XR B h x g P c sv er fl T np L) (hB : B < 2 ^ 20) (y : Int32) {r : Nat} {f0 : Nat → Int64} (hr : r < x ∨ x + 481 ≤ r) (h3 : h r = some (.inl (4, 1, .inr (.inl f0)))) : zC Γ l d mW_pass [.ref x, .int y, .ref r] h n 1 6 (zWq x r n h (zdo g 9 y (nI 0)).1 (zans 9 (zdo g 9 y (nI 0))).toInt64 (fun h1 => XR (B + 20) h1 x (zdo g 9 y (nI 0)).2.2 (zkP (zdo g 9 y (nI 0)).1 P c g) (zkc (zdo g 9 y (nI 0)).1 c) sv er fl T np L)) := by
  have hX9 := hX
  obtain ⟨⟨st, hst, hx, htr⟩, -⟩ := hX
  refine zC_ofX (ls := [some (.ref x), some (.int y), some (.ref r), none]) hl (by decide +kernel) (by decide) (Nat.le_of_ble_eq_true rfl) rfl ?_
  refine zs_aload_n (pc := 0) dW_pass_0 rfl ?_
  refine zs_iconst (pc := 1) dW_pass_1 zi_0 ?_
  refine zs_aload_n (pc := 2) dW_pass_2 rfl ?_
  refine zs_iload_n (pc := 3) dW_pass_3 rfl ?_
  refine zcVR_1 (pc := 4) (d2 := d - 1) (s_X_pass hl (by omega) hX9 hB y) dW_pass_4 kW_47 mdX_pass miX_pass mvX_pass rfl (by exact hx) rfl (Nat.le_of_ble_eq_true rfl) (by omega) (by omega) (by omega) (fun v h1 n1 hq => ?_) (fun E h1 n1 hq => ?_)
  · obtain ⟨o1, rfl, rfl⟩ := hq.1.l
    have o1 : (zdo g 9 y (nI 0)).1 = 0 := o1
    refine zs_i2l (pc := 7) dW_pass_7 ?_
    refine zs_last (pc := 8) dW_pass_8 (by exact (hq.2.1 r hr).trans h3) (vp_in_nI (by decide) (by decide)) ?_
    refine zs_goto (pc := 9) 15 dW_pass_9 rfl ?_
    refine zs_iconst (pc := 15) dW_pass_15 zi_0 ?_
    exact zs_iret (pc := 16) dW_pass_16 rfl rfl (by omega) (by omega) (⟨by rw [o1], Nat.le_refl _, fun q q1 q2 => (zu_n q2).trans (hq.2.1 q q1), XR.sm hq.2.2 (fun q g1 g2 => zu_n (by omega)), _, zu_s, fun _ => if_pos (by decide)⟩)
  · obtain ⟨o1, oE, o3⟩ := hq.1.r
    have o1 : (zdo g 9 y (nI 0)).1 ≠ 0 := o1
    have hlt : (zdo g 9 y (nI 0)).1 < 2 := (zdo_lim (g := g) (k := 9) (by decide) _ _).1
    have ha : (zdo g 9 y (nI 0)).1 = 1 := by omega
    obtain rfl : E = sIA := oE.trans (congrArg (fun k => List.getD (zEs 9) k "") ha)
    refine zx_catch (pc := 4) [] (0, 9, 12, 13) [] rfl (fun z hz => by cases hz) rfl (by decide) kcW_13 (zt2 (i := 77) rfl) (fun q => ?_)
    refine zs_astore_n (pc := 12) (ls2 := [_, _, _, _]) dW_pass_12 (Nat.le_of_ble_eq_true rfl) rfl ?_
    refine zs_iconst (pc := 13) dW_pass_13 zi_1 ?_
    exact zs_iret (pc := 14) dW_pass_14 rfl rfl (by omega) (by omega) (⟨by rw [ha], o3, fun q q1 q2 => hq.2.1 q q1, hq.2.2, f0, (hq.2.1 r hr).trans h3, fun q => absurd q o1⟩)
theorem s_W_idAt {Γ : zG} {l : Launch} (hl : l.stackTraces = false) {d : Nat} (hd : 10 ≤ d) {h : zH} {n : Nat} {B x c np : Nat} {g T : Nat → Nat} {P : Nat → Nat → Nat} {sv : Option (Nat → Nat)} {er fl : Option Nat} {L : List Nat} (hX : XR B h x g P c sv er fl T np L) (hB : B < 2 ^ 20)        (y : Int32) {r : Nat} {f0 : Nat → Int64} (hr : r < x ∨ x + 481 ≤ r) (h3 : h r = some (.inl (4, 1, .inr (.inl f0)))) : zC Γ l d mW_idAt [.ref x, .int y, .ref r] h n 1 6 (zWq x r n h (aIdAt g y).1 (((aIdAt g y)).2).toInt64 (fun h1 => XR B h1 x g P c sv er fl T np L)) := by
  have hX9 := hX
  obtain ⟨⟨st, hst, hx, htr⟩, -⟩ := hX
  refine zC_ofX (ls := [some (.ref x), some (.int y), some (.ref r), none]) hl (by decide +kernel) (by decide) (Nat.le_of_ble_eq_true rfl) rfl ?_
  refine zs_aload_n (pc := 0) dW_idAt_0 rfl ?_
  refine zs_iconst (pc := 1) dW_idAt_1 zi_0 ?_
  refine zs_aload_n (pc := 2) dW_idAt_2 rfl ?_
  refine zs_iload_n (pc := 3) dW_idAt_3 rfl ?_
  refine zcVR_1 (pc := 4) (d2 := d - 1) (s_X_idAt hl hX9 y) dW_idAt_4 kW_50 mdX_idAt miX_idAt mvX_idAt rfl (by exact hx) rfl (Nat.le_of_ble_eq_true rfl) (by omega) (by omega) (by omega) (fun v h1 n1 hq => ?_) (fun E h1 n1 hq => ?_)
  · obtain ⟨o1, rfl, rfl⟩ := hq.1.l
    have o1 : (aIdAt g y).1 = 0 := o1
    refine zs_i2l (pc := 7) dW_idAt_7 ?_
    refine zs_last (pc := 8) dW_idAt_8 (by exact (hq.2.1 r hr).trans h3) (vp_in_nI (by decide) (by decide)) ?_
    refine zs_goto (pc := 9) 15 dW_idAt_9 rfl ?_
    refine zs_iconst (pc := 15) dW_idAt_15 zi_0 ?_
    exact zs_iret (pc := 16) dW_idAt_16 rfl rfl (by omega) (by omega) (⟨by rw [o1], Nat.le_refl _, fun q q1 q2 => (zu_n q2).trans (hq.2.1 q q1), XR.sm hq.2.2 (fun q g1 g2 => zu_n (by omega)), _, zu_s, fun _ => if_pos (by decide)⟩)
  · obtain ⟨o1, oE, o3⟩ := hq.1.r
    have o1 : (aIdAt g y).1 ≠ 0 := o1
    have hlt : (aIdAt g y).1 < 2 := by
        unfold aIdAt
        (repeat' split) <;> exact Nat.le_of_ble_eq_true rfl
    have ha : (aIdAt g y).1 = 1 := by omega
    obtain rfl : E = sIB := oE.trans (congrArg (fun k => List.getD ["", sIB] k "") ha)
    refine zx_catch (pc := 4) [] (0, 9, 12, 42) [] rfl (fun z hz => by cases hz) rfl (by decide) kcW_42 (zt3 (i := 163) rfl) (fun q => ?_)
    refine zs_astore_n (pc := 12) (ls2 := [_, _, _, _]) dW_idAt_12 (Nat.le_of_ble_eq_true rfl) rfl ?_
    refine zs_iconst (pc := 13) dW_idAt_13 zi_1 ?_
    exact zs_iret (pc := 14) dW_idAt_14 rfl rfl (by omega) (by omega) (⟨by rw [ha], o3, fun q q1 q2 => hq.2.1 q q1, hq.2.2, f0, (hq.2.1 r hr).trans h3, fun q => absurd q o1⟩)
theorem s_W_weightOf {Γ : zG} {l : Launch} (hl : l.stackTraces = false) {d : Nat} (hd : 10 ≤ d) {h : zH} {n : Nat} {B x c np : Nat} {g T : Nat → Nat} {P : Nat → Nat → Nat} {sv : Option (Nat → Nat)} {er fl : Option Nat} {L : List Nat} (hX : XR B h x g P c sv er fl T np L) (hB : B < 2 ^ 20)         (y : Int32) {r : Nat} {f0 : Nat → Int64} (hr : r < x ∨ x + 481 ≤ r) (h3 : h r = some (.inl (4, 1, .inr (.inl f0)))) : zC Γ l d mW_weightOf [.ref x, .int y, .ref r] h n 1 6 (zWq x r n h (aOf g y 1).1 (((aOf g y 1)).2).toInt64 (fun h1 => XR B h1 x g P c sv er fl T np L)) := by
  have hX9 := hX
  obtain ⟨⟨st, hst, hx, htr⟩, -⟩ := hX
  refine zC_ofX (ls := [some (.ref x), some (.int y), some (.ref r), none]) hl (by decide +kernel) (by decide) (Nat.le_of_ble_eq_true rfl) rfl ?_
  refine zs_aload_n (pc := 0) dW_weightOf_0 rfl ?_
  refine zs_iconst (pc := 1) dW_weightOf_1 zi_0 ?_
  refine zs_aload_n (pc := 2) dW_weightOf_2 rfl ?_
  refine zs_iload_n (pc := 3) dW_weightOf_3 rfl ?_
  refine zcVR_1 (pc := 4) (d2 := d - 1) (s_X_weightOf hl (by omega) hX9 hB y) dW_weightOf_4 kW_53 mdX_weightOf miX_weightOf mvX_weightOf rfl (by exact hx) rfl (Nat.le_of_ble_eq_true rfl) (by omega) (by omega) (by omega) (fun v h1 n1 hq => ?_) (fun E h1 n1 hq => ?_)
  · obtain ⟨o1, rfl, rfl⟩ := hq.1.l
    have o1 : (aOf g y 1).1 = 0 := o1
    refine zs_i2l (pc := 7) dW_weightOf_7 ?_
    refine zs_last (pc := 8) dW_weightOf_8 (by exact (hq.2.1 r hr).trans h3) (vp_in_nI (by decide) (by decide)) ?_
    refine zs_goto (pc := 9) 15 dW_weightOf_9 rfl ?_
    refine zs_iconst (pc := 15) dW_weightOf_15 zi_0 ?_
    exact zs_iret (pc := 16) dW_weightOf_16 rfl rfl (by omega) (by omega) (⟨by rw [o1], Nat.le_refl _, fun q q1 q2 => (zu_n q2).trans (hq.2.1 q q1), XR.sm hq.2.2 (fun q g1 g2 => zu_n (by omega)), _, zu_s, fun _ => if_pos (by decide)⟩)
  · obtain ⟨o1, oE, o3⟩ := hq.1.r
    have o1 : (aOf g y 1).1 ≠ 0 := o1
    have hlt : (aOf g y 1).1 < 2 := by
        unfold aOf
        (repeat' split) <;> exact Nat.le_of_ble_eq_true rfl
    have ha : (aOf g y 1).1 = 1 := by omega
    obtain rfl : E = sNS := oE.trans (congrArg (fun k => List.getD ["", sNS] k "") ha)
    refine zx_catch (pc := 4) [] (0, 9, 12, 21) [] rfl (fun z hz => by cases hz) rfl (by decide) kcW_21 (zt2 (i := 238) rfl) (fun q => ?_)
    refine zs_astore_n (pc := 12) (ls2 := [_, _, _, _]) dW_weightOf_12 (Nat.le_of_ble_eq_true rfl) rfl ?_
    refine zs_iconst (pc := 13) dW_weightOf_13 zi_1 ?_
    exact zs_iret (pc := 14) dW_weightOf_14 rfl rfl (by omega) (by omega) (⟨by rw [ha], o3, fun q q1 q2 => hq.2.1 q q1, hq.2.2, f0, (hq.2.1 r hr).trans h3, fun q => absurd q o1⟩)
theorem s_W_ageOf {Γ : zG} {l : Launch} (hl : l.stackTraces = false) {d : Nat} (hd : 10 ≤ d) {h : zH} {n : Nat} {B x c np : Nat} {g T : Nat → Nat} {P : Nat → Nat → Nat} {sv : Option (Nat → Nat)} {er fl : Option Nat} {L : List Nat} (hX : XR B h x g P c sv er fl T np L) (hB : B < 2 ^ 20)         (y : Int32) {r : Nat} {f0 : Nat → Int64} (hr : r < x ∨ x + 481 ≤ r) (h3 : h r = some (.inl (4, 1, .inr (.inl f0)))) : zC Γ l d mW_ageOf [.ref x, .int y, .ref r] h n 1 6 (zWq x r n h (aOf g y 2).1 (((aOf g y 2)).2).toInt64 (fun h1 => XR B h1 x g P c sv er fl T np L)) := by
  have hX9 := hX
  obtain ⟨⟨st, hst, hx, htr⟩, -⟩ := hX
  refine zC_ofX (ls := [some (.ref x), some (.int y), some (.ref r), none]) hl (by decide +kernel) (by decide) (Nat.le_of_ble_eq_true rfl) rfl ?_
  refine zs_aload_n (pc := 0) dW_ageOf_0 rfl ?_
  refine zs_iconst (pc := 1) dW_ageOf_1 zi_0 ?_
  refine zs_aload_n (pc := 2) dW_ageOf_2 rfl ?_
  refine zs_iload_n (pc := 3) dW_ageOf_3 rfl ?_
  refine zcVR_1 (pc := 4) (d2 := d - 1) (s_X_ageOf hl (by omega) hX9 hB y) dW_ageOf_4 kW_56 mdX_ageOf miX_ageOf mvX_ageOf rfl (by exact hx) rfl (Nat.le_of_ble_eq_true rfl) (by omega) (by omega) (by omega) (fun v h1 n1 hq => ?_) (fun E h1 n1 hq => ?_)
  · obtain ⟨o1, rfl, rfl⟩ := hq.1.l
    have o1 : (aOf g y 2).1 = 0 := o1
    refine zs_i2l (pc := 7) dW_ageOf_7 ?_
    refine zs_last (pc := 8) dW_ageOf_8 (by exact (hq.2.1 r hr).trans h3) (vp_in_nI (by decide) (by decide)) ?_
    refine zs_goto (pc := 9) 15 dW_ageOf_9 rfl ?_
    refine zs_iconst (pc := 15) dW_ageOf_15 zi_0 ?_
    exact zs_iret (pc := 16) dW_ageOf_16 rfl rfl (by omega) (by omega) (⟨by rw [o1], Nat.le_refl _, fun q q1 q2 => (zu_n q2).trans (hq.2.1 q q1), XR.sm hq.2.2 (fun q g1 g2 => zu_n (by omega)), _, zu_s, fun _ => if_pos (by decide)⟩)
  · obtain ⟨o1, oE, o3⟩ := hq.1.r
    have o1 : (aOf g y 2).1 ≠ 0 := o1
    have hlt : (aOf g y 2).1 < 2 := by
        unfold aOf
        (repeat' split) <;> exact Nat.le_of_ble_eq_true rfl
    have ha : (aOf g y 2).1 = 1 := by omega
    obtain rfl : E = sNS := oE.trans (congrArg (fun k => List.getD ["", sNS] k "") ha)
    refine zx_catch (pc := 4) [] (0, 9, 12, 21) [] rfl (fun z hz => by cases hz) rfl (by decide) kcW_21 (zt2 (i := 238) rfl) (fun q => ?_)
    refine zs_astore_n (pc := 12) (ls2 := [_, _, _, _]) dW_ageOf_12 (Nat.le_of_ble_eq_true rfl) rfl ?_
    refine zs_iconst (pc := 13) dW_ageOf_13 zi_1 ?_
    exact zs_iret (pc := 14) dW_ageOf_14 rfl rfl (by omega) (by omega) (⟨by rw [ha], o3, fun q q1 q2 => hq.2.1 q q1, hq.2.2, f0, (hq.2.1 r hr).trans h3, fun q => absurd q o1⟩)
theorem s_W_hitsOf {Γ : zG} {l : Launch} (hl : l.stackTraces = false) {d : Nat} (hd : 10 ≤ d) {h : zH} {n : Nat} {B x c np : Nat} {g T : Nat → Nat} {P : Nat → Nat → Nat} {sv : Option (Nat → Nat)} {er fl : Option Nat} {L : List Nat} (hX : XR B h x g P c sv er fl T np L) (hB : B < 2 ^ 20)         (y : Int32) {r : Nat} {f0 : Nat → Int64} (hr : r < x ∨ x + 481 ≤ r) (h3 : h r = some (.inl (4, 1, .inr (.inl f0)))) : zC Γ l d mW_hitsOf [.ref x, .int y, .ref r] h n 1 6 (zWq x r n h (aOf g y 3).1 (((aOf g y 3)).2).toInt64 (fun h1 => XR B h1 x g P c sv er fl T np L)) := by
  have hX9 := hX
  obtain ⟨⟨st, hst, hx, htr⟩, -⟩ := hX
  refine zC_ofX (ls := [some (.ref x), some (.int y), some (.ref r), none]) hl (by decide +kernel) (by decide) (Nat.le_of_ble_eq_true rfl) rfl ?_
  refine zs_aload_n (pc := 0) dW_hitsOf_0 rfl ?_
  refine zs_iconst (pc := 1) dW_hitsOf_1 zi_0 ?_
  refine zs_aload_n (pc := 2) dW_hitsOf_2 rfl ?_
  refine zs_iload_n (pc := 3) dW_hitsOf_3 rfl ?_
  refine zcVR_1 (pc := 4) (d2 := d - 1) (s_X_hitsOf hl (by omega) hX9 hB y) dW_hitsOf_4 kW_59 mdX_hitsOf miX_hitsOf mvX_hitsOf rfl (by exact hx) rfl (Nat.le_of_ble_eq_true rfl) (by omega) (by omega) (by omega) (fun v h1 n1 hq => ?_) (fun E h1 n1 hq => ?_)
  · obtain ⟨o1, rfl, rfl⟩ := hq.1.l
    have o1 : (aOf g y 3).1 = 0 := o1
    refine zs_i2l (pc := 7) dW_hitsOf_7 ?_
    refine zs_last (pc := 8) dW_hitsOf_8 (by exact (hq.2.1 r hr).trans h3) (vp_in_nI (by decide) (by decide)) ?_
    refine zs_goto (pc := 9) 15 dW_hitsOf_9 rfl ?_
    refine zs_iconst (pc := 15) dW_hitsOf_15 zi_0 ?_
    exact zs_iret (pc := 16) dW_hitsOf_16 rfl rfl (by omega) (by omega) (⟨by rw [o1], Nat.le_refl _, fun q q1 q2 => (zu_n q2).trans (hq.2.1 q q1), XR.sm hq.2.2 (fun q g1 g2 => zu_n (by omega)), _, zu_s, fun _ => if_pos (by decide)⟩)
  · obtain ⟨o1, oE, o3⟩ := hq.1.r
    have o1 : (aOf g y 3).1 ≠ 0 := o1
    have hlt : (aOf g y 3).1 < 2 := by
        unfold aOf
        (repeat' split) <;> exact Nat.le_of_ble_eq_true rfl
    have ha : (aOf g y 3).1 = 1 := by omega
    obtain rfl : E = sNS := oE.trans (congrArg (fun k => List.getD ["", sNS] k "") ha)
    refine zx_catch (pc := 4) [] (0, 9, 12, 21) [] rfl (fun z hz => by cases hz) rfl (by decide) kcW_21 (zt2 (i := 238) rfl) (fun q => ?_)
    refine zs_astore_n (pc := 12) (ls2 := [_, _, _, _]) dW_hitsOf_12 (Nat.le_of_ble_eq_true rfl) rfl ?_
    refine zs_iconst (pc := 13) dW_hitsOf_13 zi_1 ?_
    exact zs_iret (pc := 14) dW_hitsOf_14 rfl rfl (by omega) (by omega) (⟨by rw [ha], o3, fun q q1 q2 => hq.2.1 q q1, hq.2.2, f0, (hq.2.1 r hr).trans h3, fun q => absurd q o1⟩)
theorem s_W_lifetimeOf {Γ : zG} {l : Launch} (hl : l.stackTraces = false) {d : Nat} (hd : 10 ≤ d) {h : zH} {n : Nat} {B x c np : Nat} {g T : Nat → Nat} {P : Nat → Nat → Nat} {sv : Option (Nat → Nat)} {er fl : Option Nat} {L : List Nat} (hX : XR B h x g P c sv er fl T np L) (hB : B < 2 ^ 20)         (y : Int32) {r : Nat} {f0 : Nat → Int64} (hr : r < x ∨ x + 481 ≤ r) (h3 : h r = some (.inl (4, 1, .inr (.inl f0)))) : zC Γ l d mW_lifetimeOf [.ref x, .int y, .ref r] h n 1 6 (zWq x r n h (aLife g y).1 (((aLife g y)).2).toInt64 (fun h1 => XR B h1 x g P c sv er fl T np L)) := by
  have hX9 := hX
  obtain ⟨⟨st, hst, hx, htr⟩, -⟩ := hX
  refine zC_ofX (ls := [some (.ref x), some (.int y), some (.ref r), none]) hl (by decide +kernel) (by decide) (Nat.le_of_ble_eq_true rfl) rfl ?_
  refine zs_aload_n (pc := 0) dW_lifetimeOf_0 rfl ?_
  refine zs_iconst (pc := 1) dW_lifetimeOf_1 zi_0 ?_
  refine zs_aload_n (pc := 2) dW_lifetimeOf_2 rfl ?_
  refine zs_iload_n (pc := 3) dW_lifetimeOf_3 rfl ?_
  refine zcVR_1 (pc := 4) (d2 := d - 1) (s_X_lifetimeOf hl (by omega) hX9 hB y) dW_lifetimeOf_4 kW_62 mdX_lifetimeOf miX_lifetimeOf mvX_lifetimeOf rfl (by exact hx) rfl (Nat.le_of_ble_eq_true rfl) (by omega) (by omega) (by omega) (fun v h1 n1 hq => ?_) (fun E h1 n1 hq => ?_)
  · obtain ⟨o1, rfl, rfl⟩ := hq.1.l
    have o1 : (aLife g y).1 = 0 := o1
    refine zs_i2l (pc := 7) dW_lifetimeOf_7 ?_
    refine zs_last (pc := 8) dW_lifetimeOf_8 (by exact (hq.2.1 r hr).trans h3) (vp_in_nI (by decide) (by decide)) ?_
    refine zs_goto (pc := 9) 15 dW_lifetimeOf_9 rfl ?_
    refine zs_iconst (pc := 15) dW_lifetimeOf_15 zi_0 ?_
    exact zs_iret (pc := 16) dW_lifetimeOf_16 rfl rfl (by omega) (by omega) (⟨by rw [o1], Nat.le_refl _, fun q q1 q2 => (zu_n q2).trans (hq.2.1 q q1), XR.sm hq.2.2 (fun q g1 g2 => zu_n (by omega)), _, zu_s, fun _ => if_pos (by decide)⟩)
  · obtain ⟨o1, oE, o3⟩ := hq.1.r
    have o1 : (aLife g y).1 ≠ 0 := o1
    have hlt : (aLife g y).1 < 2 := by
        unfold aLife
        (repeat' split) <;> exact Nat.le_of_ble_eq_true rfl
    have ha : (aLife g y).1 = 1 := by omega
    obtain rfl : E = sNS := oE.trans (congrArg (fun k => List.getD ["", sNS] k "") ha)
    refine zx_catch (pc := 4) [] (0, 9, 12, 21) [] rfl (fun z hz => by cases hz) rfl (by decide) kcW_21 (zt2 (i := 238) rfl) (fun q => ?_)
    refine zs_astore_n (pc := 12) (ls2 := [_, _, _, _]) dW_lifetimeOf_12 (Nat.le_of_ble_eq_true rfl) rfl ?_
    refine zs_iconst (pc := 13) dW_lifetimeOf_13 zi_1 ?_
    exact zs_iret (pc := 14) dW_lifetimeOf_14 rfl rfl (by omega) (by omega) (⟨by rw [ha], o3, fun q q1 q2 => hq.2.1 q q1, hq.2.2, f0, (hq.2.1 r hr).trans h3, fun q => absurd q o1⟩)
theorem s_W_segmentOf {Γ : zG} {l : Launch} (hl : l.stackTraces = false) {d : Nat} (hd : 10 ≤ d) {h : zH} {n : Nat} {B x c np : Nat} {g T : Nat → Nat} {P : Nat → Nat → Nat} {sv : Option (Nat → Nat)} {er fl : Option Nat} {L : List Nat} (hX : XR B h x g P c sv er fl T np L) (hB : B < 2 ^ 20)         (y : Int32) {r : Nat} {f0 : Nat → Int64} (hr : r < x ∨ x + 481 ≤ r) (h3 : h r = some (.inl (4, 1, .inr (.inl f0)))) : zC Γ l d mW_segmentOf [.ref x, .int y, .ref r] h n 1 6 (zWq x r n h (aOf g y 4).1 (((aOf g y 4)).2).toInt64 (fun h1 => XR B h1 x g P c sv er fl T np L)) := by
  have hX9 := hX
  obtain ⟨⟨st, hst, hx, htr⟩, -⟩ := hX
  refine zC_ofX (ls := [some (.ref x), some (.int y), some (.ref r), none]) hl (by decide +kernel) (by decide) (Nat.le_of_ble_eq_true rfl) rfl ?_
  refine zs_aload_n (pc := 0) dW_segmentOf_0 rfl ?_
  refine zs_iconst (pc := 1) dW_segmentOf_1 zi_0 ?_
  refine zs_aload_n (pc := 2) dW_segmentOf_2 rfl ?_
  refine zs_iload_n (pc := 3) dW_segmentOf_3 rfl ?_
  refine zcVR_1 (pc := 4) (d2 := d - 1) (s_X_segmentOf hl (by omega) hX9 hB y) dW_segmentOf_4 kW_65 mdX_segmentOf miX_segmentOf mvX_segmentOf rfl (by exact hx) rfl (Nat.le_of_ble_eq_true rfl) (by omega) (by omega) (by omega) (fun v h1 n1 hq => ?_) (fun E h1 n1 hq => ?_)
  · obtain ⟨o1, rfl, rfl⟩ := hq.1.l
    have o1 : (aOf g y 4).1 = 0 := o1
    refine zs_i2l (pc := 7) dW_segmentOf_7 ?_
    refine zs_last (pc := 8) dW_segmentOf_8 (by exact (hq.2.1 r hr).trans h3) (vp_in_nI (by decide) (by decide)) ?_
    refine zs_goto (pc := 9) 15 dW_segmentOf_9 rfl ?_
    refine zs_iconst (pc := 15) dW_segmentOf_15 zi_0 ?_
    exact zs_iret (pc := 16) dW_segmentOf_16 rfl rfl (by omega) (by omega) (⟨by rw [o1], Nat.le_refl _, fun q q1 q2 => (zu_n q2).trans (hq.2.1 q q1), XR.sm hq.2.2 (fun q g1 g2 => zu_n (by omega)), _, zu_s, fun _ => if_pos (by decide)⟩)
  · obtain ⟨o1, oE, o3⟩ := hq.1.r
    have o1 : (aOf g y 4).1 ≠ 0 := o1
    have hlt : (aOf g y 4).1 < 2 := by
        unfold aOf
        (repeat' split) <;> exact Nat.le_of_ble_eq_true rfl
    have ha : (aOf g y 4).1 = 1 := by omega
    obtain rfl : E = sNS := oE.trans (congrArg (fun k => List.getD ["", sNS] k "") ha)
    refine zx_catch (pc := 4) [] (0, 9, 12, 21) [] rfl (fun z hz => by cases hz) rfl (by decide) kcW_21 (zt2 (i := 238) rfl) (fun q => ?_)
    refine zs_astore_n (pc := 12) (ls2 := [_, _, _, _]) dW_segmentOf_12 (Nat.le_of_ble_eq_true rfl) rfl ?_
    refine zs_iconst (pc := 13) dW_segmentOf_13 zi_1 ?_
    exact zs_iret (pc := 14) dW_segmentOf_14 rfl rfl (by omega) (by omega) (⟨by rw [ha], o3, fun q q1 q2 => hq.2.1 q q1, hq.2.2, f0, (hq.2.1 r hr).trans h3, fun q => absurd q o1⟩)
theorem s_W_codeCount {Γ : zG} {l : Launch} (hl : l.stackTraces = false) {d : Nat} (hd : 10 ≤ d) {h : zH} {n : Nat} {B x c np : Nat} {g T : Nat → Nat} {P : Nat → Nat → Nat} {sv : Option (Nat → Nat)} {er fl : Option Nat} {L : List Nat} (hX : XR B h x g P c sv er fl T np L) (hB : B < 2 ^ 20)         (y : Int32) {r : Nat} {f0 : Nat → Int64} (hr : r < x ∨ x + 481 ≤ r) (h3 : h r = some (.inl (4, 1, .inr (.inl f0)))) : zC Γ l d mW_codeCount [.ref x, .int y, .ref r] h n 1 6 (zWq x r n h (aOf g y 5).1 (((aOf g y 5)).2).toInt64 (fun h1 => XR B h1 x g P c sv er fl T np L)) := by
  have hX9 := hX
  obtain ⟨⟨st, hst, hx, htr⟩, -⟩ := hX
  refine zC_ofX (ls := [some (.ref x), some (.int y), some (.ref r), none]) hl (by decide +kernel) (by decide) (Nat.le_of_ble_eq_true rfl) rfl ?_
  refine zs_aload_n (pc := 0) dW_codeCount_0 rfl ?_
  refine zs_iconst (pc := 1) dW_codeCount_1 zi_0 ?_
  refine zs_aload_n (pc := 2) dW_codeCount_2 rfl ?_
  refine zs_iload_n (pc := 3) dW_codeCount_3 rfl ?_
  refine zcVR_1 (pc := 4) (d2 := d - 1) (s_X_codeCount hl (by omega) hX9 hB y) dW_codeCount_4 kW_68 mdX_codeCount miX_codeCount mvX_codeCount rfl (by exact hx) rfl (Nat.le_of_ble_eq_true rfl) (by omega) (by omega) (by omega) (fun v h1 n1 hq => ?_) (fun E h1 n1 hq => ?_)
  · obtain ⟨o1, rfl, rfl⟩ := hq.1.l
    have o1 : (aOf g y 5).1 = 0 := o1
    refine zs_i2l (pc := 7) dW_codeCount_7 ?_
    refine zs_last (pc := 8) dW_codeCount_8 (by exact (hq.2.1 r hr).trans h3) (vp_in_nI (by decide) (by decide)) ?_
    refine zs_goto (pc := 9) 15 dW_codeCount_9 rfl ?_
    refine zs_iconst (pc := 15) dW_codeCount_15 zi_0 ?_
    exact zs_iret (pc := 16) dW_codeCount_16 rfl rfl (by omega) (by omega) (⟨by rw [o1], Nat.le_refl _, fun q q1 q2 => (zu_n q2).trans (hq.2.1 q q1), XR.sm hq.2.2 (fun q g1 g2 => zu_n (by omega)), _, zu_s, fun _ => if_pos (by decide)⟩)
  · obtain ⟨o1, oE, o3⟩ := hq.1.r
    have o1 : (aOf g y 5).1 ≠ 0 := o1
    have hlt : (aOf g y 5).1 < 2 := by
        unfold aOf
        (repeat' split) <;> exact Nat.le_of_ble_eq_true rfl
    have ha : (aOf g y 5).1 = 1 := by omega
    obtain rfl : E = sNS := oE.trans (congrArg (fun k => List.getD ["", sNS] k "") ha)
    refine zx_catch (pc := 4) [] (0, 9, 12, 21) [] rfl (fun z hz => by cases hz) rfl (by decide) kcW_21 (zt2 (i := 238) rfl) (fun q => ?_)
    refine zs_astore_n (pc := 12) (ls2 := [_, _, _, _]) dW_codeCount_12 (Nat.le_of_ble_eq_true rfl) rfl ?_
    refine zs_iconst (pc := 13) dW_codeCount_13 zi_1 ?_
    exact zs_iret (pc := 14) dW_codeCount_14 rfl rfl (by omega) (by omega) (⟨by rw [ha], o3, fun q q1 q2 => hq.2.1 q q1, hq.2.2, f0, (hq.2.1 r hr).trans h3, fun q => absurd q o1⟩)
theorem s_W_codeAt {Γ : zG} {l : Launch} (hl : l.stackTraces = false) {d : Nat} (hd : 10 ≤ d) {h : zH} {n : Nat} {B x c np : Nat} {g T : Nat → Nat} {P : Nat → Nat → Nat} {sv : Option (Nat → Nat)} {er fl : Option Nat} {L : List Nat} (hX : XR B h x g P c sv er fl T np L) (hB : B < 2 ^ 20)         (y z : Int32) {r : Nat} {f0 : Nat → Int64} (hr : r < x ∨ x + 481 ≤ r) (h3 : h r = some (.inl (4, 1, .inr (.inl f0)))) : zC Γ l d mW_codeAt [.ref x, .int y, .int z, .ref r] h n 1 6 (zWq x r n h (aCodeAt g y z).1 (((aCodeAt g y z)).2).toInt64 (fun h1 => XR B h1 x g P c sv er fl T np L)) := by
  have hX9 := hX
  obtain ⟨⟨st, hst, hx, htr⟩, -⟩ := hX
  refine zC_ofX (ls := [some (.ref x), some (.int y), some (.int z), some (.ref r), none]) hl (by decide +kernel) (by decide) (Nat.le_of_ble_eq_true rfl) rfl ?_
  refine zs_aload_n (pc := 0) dW_codeAt_0 rfl ?_
  refine zs_iconst (pc := 1) dW_codeAt_1 zi_0 ?_
  refine zs_aload_n (pc := 2) dW_codeAt_2 rfl ?_
  refine zs_iload_n (pc := 3) dW_codeAt_3 rfl ?_
  refine zs_iload_n (pc := 4) dW_codeAt_4 rfl ?_
  refine zcVR_2 (pc := 5) (d2 := d - 1) (s_X_codeAt hl (by omega) hX9 hB y z) dW_codeAt_5 kW_71 mdX_codeAt miX_codeAt mvX_codeAt rfl (by exact hx) rfl (Nat.le_of_ble_eq_true rfl) (by omega) (by omega) (by omega) (fun v h1 n1 hq => ?_) (fun E h1 n1 hq => ?_)
  · obtain ⟨o1, rfl, rfl⟩ := hq.1.l
    have o1 : (aCodeAt g y z).1 = 0 := o1
    refine zs_i2l (pc := 8) dW_codeAt_8 ?_
    refine zs_last (pc := 9) dW_codeAt_9 (by exact (hq.2.1 r hr).trans h3) (vp_in_nI (by decide) (by decide)) ?_
    refine zs_goto (pc := 10) 21 dW_codeAt_10 rfl ?_
    refine zs_iconst (pc := 21) dW_codeAt_21 zi_0 ?_
    exact zs_iret (pc := 22) dW_codeAt_22 rfl rfl (by omega) (by omega) (⟨by rw [o1], Nat.le_refl _, fun q q1 q2 => (zu_n q2).trans (hq.2.1 q q1), XR.sm hq.2.2 (fun q g1 g2 => zu_n (by omega)), _, zu_s, fun _ => if_pos (by decide)⟩)
  · obtain ⟨o1, oE, o3⟩ := hq.1.r
    have o1 : (aCodeAt g y z).1 ≠ 0 := o1
    have hlt : (aCodeAt g y z).1 < 3 := by
        unfold aCodeAt
        (repeat' split) <;> exact Nat.le_of_ble_eq_true rfl
    have ha : (aCodeAt g y z).1 = 1 ∨ (aCodeAt g y z).1 = 2 := by omega
    rcases ha with ha | ha
    · obtain rfl : E = sNS := oE.trans (congrArg (fun k => List.getD ["", sNS, sIB] k "") ha)
      refine zx_catch (pc := 5) [] (0, 10, 13, 21) [(0, 10, 17, 42)] rfl (fun z hz => by cases hz) rfl (by decide) kcW_21 (zt2 (i := 238) rfl) (fun q => ?_)
      refine zs_astore (pc := 13) (ls2 := [_, _, _, _, _]) dW_codeAt_13 (Nat.le_of_ble_eq_true rfl) rfl ?_
      refine zs_iconst (pc := 15) dW_codeAt_15 zi_1 ?_
      exact zs_iret (pc := 16) dW_codeAt_16 rfl rfl (by omega) (by omega) (⟨by rw [ha], o3, fun q q1 q2 => hq.2.1 q q1, hq.2.2, f0, (hq.2.1 r hr).trans h3, fun q => absurd q o1⟩)
    · obtain rfl : E = sIB := oE.trans (congrArg (fun k => List.getD ["", sNS, sIB] k "") ha)
      refine zx_catch (pc := 5) [(0, 10, 13, 21)] (0, 10, 17, 42) [] rfl (by
          intro z hz
          rcases List.mem_cons.mp hz with rfl | hz
          · exact ⟨by decide, "java/util/NoSuchElementException", kcW_21, by decide +kernel⟩
          cases hz) rfl (by decide) kcW_42 (zt3 (i := 163) rfl) (fun q => ?_)
      refine zs_astore (pc := 17) (ls2 := [_, _, _, _, _]) dW_codeAt_17 (Nat.le_of_ble_eq_true rfl) rfl ?_
      refine zs_iconst (pc := 19) dW_codeAt_19 zi_2 ?_
      exact zs_iret (pc := 20) dW_codeAt_20 rfl rfl (by omega) (by omega) (⟨by rw [ha], o3, fun q q1 q2 => hq.2.1 q q1, hq.2.2, f0, (hq.2.1 r hr).trans h3, fun q => absurd q o1⟩)
theorem s_W_hasCode {Γ : zG} {l : Launch} (hl : l.stackTraces = false) {d : Nat} (hd : 10 ≤ d) {h : zH} {n : Nat} {B x c np : Nat} {g T : Nat → Nat} {P : Nat → Nat → Nat} {sv : Option (Nat → Nat)} {er fl : Option Nat} {L : List Nat} (hX : XR B h x g P c sv er fl T np L) (hB : B < 2 ^ 20)         (y z : Int32) {r : Nat} {f0 : Nat → Int64} (hr : r < x ∨ x + 481 ≤ r) (h3 : h r = some (.inl (4, 1, .inr (.inl f0)))) : zC Γ l d mW_hasCode [.ref x, .int y, .int z, .ref r] h n 1 6 (zWq x r n h (aHas g y z).1 (if ((aHas g y z)).2 = 0 then 0 else 1) (fun h1 => XR B h1 x g P c sv er fl T np L)) := by
  have hX9 := hX
  obtain ⟨⟨st, hst, hx, htr⟩, -⟩ := hX
  refine zC_ofX (ls := [some (.ref x), some (.int y), some (.int z), some (.ref r), none]) hl (by decide +kernel) (by decide) (Nat.le_of_ble_eq_true rfl) rfl ?_
  refine zs_aload_n (pc := 0) dW_hasCode_0 rfl ?_
  refine zs_iconst (pc := 1) dW_hasCode_1 zi_0 ?_
  refine zs_aload_n (pc := 2) dW_hasCode_2 rfl ?_
  refine zs_iload_n (pc := 3) dW_hasCode_3 rfl ?_
  refine zs_iload_n (pc := 4) dW_hasCode_4 rfl ?_
  refine zcVR_2 (pc := 5) (d2 := d - 1) (s_X_hasCode hl (by omega) hX9 hB y z) dW_hasCode_5 kW_74 mdX_hasCode miX_hasCode mvX_hasCode rfl (by exact hx) rfl (Nat.le_of_ble_eq_true rfl) (by omega) (by omega) (by omega) (fun v h1 n1 hq => ?_) (fun E h1 n1 hq => ?_)
  · obtain ⟨o1, rfl, rfl⟩ := hq.1.l
    have o1 : (aHas g y z).1 = 0 := o1
    refine zs_if_eq (pc := 8) 15 dW_hasCode_8 rfl (fun hb => ?_) (fun hb => ?_)
    · rw [if_pos hb]
      refine zs_lconst (pc := 15) (v := 0) dW_hasCode_15 (by decide) ?_
      refine zs_last (pc := 16) dW_hasCode_16 (by exact (hq.2.1 r hr).trans h3) (vp_in_nI (by decide) (by decide)) ?_
      refine zs_goto (pc := 17) 28 dW_hasCode_17 rfl ?_
      refine zs_iconst (pc := 28) dW_hasCode_28 zi_0 ?_
      exact zs_iret (pc := 29) dW_hasCode_29 rfl rfl (by omega) (by omega) (⟨by rw [o1], Nat.le_refl _, fun q q1 q2 => (zu_n q2).trans (hq.2.1 q q1), XR.sm hq.2.2 (fun q g1 g2 => zu_n (by omega)), _, zu_s, fun _ => if_pos (by decide)⟩)
    · rw [if_neg hb]
      refine zs_lconst (pc := 11) (v := 1) dW_hasCode_11 (by decide) ?_
      refine zs_goto (pc := 12) 16 dW_hasCode_12 rfl ?_
      refine zs_last (pc := 16) dW_hasCode_16 (by exact (hq.2.1 r hr).trans h3) (vp_in_nI (by decide) (by decide)) ?_
      refine zs_goto (pc := 17) 28 dW_hasCode_17 rfl ?_
      refine zs_iconst (pc := 28) dW_hasCode_28 zi_0 ?_
      exact zs_iret (pc := 29) dW_hasCode_29 rfl rfl (by omega) (by omega) (⟨by rw [o1], Nat.le_refl _, fun q q1 q2 => (zu_n q2).trans (hq.2.1 q q1), XR.sm hq.2.2 (fun q g1 g2 => zu_n (by omega)), _, zu_s, fun _ => if_pos (by decide)⟩)
  · obtain ⟨o1, oE, o3⟩ := hq.1.r
    have o1 : (aHas g y z).1 ≠ 0 := o1
    have hlt : (aHas g y z).1 < 3 := by
        unfold aHas
        (repeat' split) <;> exact Nat.le_of_ble_eq_true rfl
    have ha : (aHas g y z).1 = 1 ∨ (aHas g y z).1 = 2 := by omega
    rcases ha with ha | ha
    · obtain rfl : E = sNS := oE.trans (congrArg (fun k => List.getD ["", sNS, sIA] k "") ha)
      refine zx_catch (pc := 5) [] (0, 17, 20, 21) [(0, 17, 24, 13)] rfl (fun z hz => by cases hz) rfl (by decide) kcW_21 (zt2 (i := 238) rfl) (fun q => ?_)
      refine zs_astore (pc := 20) (ls2 := [_, _, _, _, _]) dW_hasCode_20 (Nat.le_of_ble_eq_true rfl) rfl ?_
      refine zs_iconst (pc := 22) dW_hasCode_22 zi_1 ?_
      exact zs_iret (pc := 23) dW_hasCode_23 rfl rfl (by omega) (by omega) (⟨by rw [ha], o3, fun q q1 q2 => hq.2.1 q q1, hq.2.2, f0, (hq.2.1 r hr).trans h3, fun q => absurd q o1⟩)
    · obtain rfl : E = sIA := oE.trans (congrArg (fun k => List.getD ["", sNS, sIA] k "") ha)
      refine zx_catch (pc := 5) [(0, 17, 20, 21)] (0, 17, 24, 13) [] rfl (by
          intro z hz
          rcases List.mem_cons.mp hz with rfl | hz
          · exact ⟨by decide, "java/util/NoSuchElementException", kcW_21, by decide +kernel⟩
          cases hz) rfl (by decide) kcW_13 (zt2 (i := 77) rfl) (fun q => ?_)
      refine zs_astore (pc := 24) (ls2 := [_, _, _, _, _]) dW_hasCode_24 (Nat.le_of_ble_eq_true rfl) rfl ?_
      refine zs_iconst (pc := 26) dW_hasCode_26 zi_2 ?_
      exact zs_iret (pc := 27) dW_hasCode_27 rfl rfl (by omega) (by omega) (⟨by rw [ha], o3, fun q q1 q2 => hq.2.1 q q1, hq.2.2, f0, (hq.2.1 r hr).trans h3, fun q => absurd q o1⟩)
theorem s_W_matches {Γ : zG} {l : Launch} (hl : l.stackTraces = false) {d : Nat} (hd : 10 ≤ d) {h : zH} {n : Nat} {B x c np : Nat} {g T : Nat → Nat} {P : Nat → Nat → Nat} {sv : Option (Nat → Nat)} {er fl : Option Nat} {L : List Nat} (hX : XR B h x g P c sv er fl T np L) (hB : B < 2 ^ 20)         (y z w : Int32) {r : Nat} {f0 : Nat → Int64} (hr : r < x ∨ x + 481 ≤ r) (h3 : h r = some (.inl (4, 1, .inr (.inl f0)))) : zC Γ l d mW_matches [.ref x, .int y, .int z, .int w, .ref r] h n 1 6 (zWq x r n h (aMat g y z w).1 (if ((aMat g y z w)).2 = 0 then 0 else 1) (fun h1 => XR B h1 x g P c sv er fl T np L)) := by
  have hX9 := hX
  obtain ⟨⟨st, hst, hx, htr⟩, -⟩ := hX
  refine zC_ofX (ls := [some (.ref x), some (.int y), some (.int z), some (.int w), some (.ref r), none]) hl (by decide +kernel) (by decide) (Nat.le_of_ble_eq_true rfl) rfl ?_
  refine zs_aload (pc := 0) dW_matches_0 rfl ?_
  refine zs_iconst (pc := 2) dW_matches_2 zi_0 ?_
  refine zs_aload_n (pc := 3) dW_matches_3 rfl ?_
  refine zs_iload_n (pc := 4) dW_matches_4 rfl ?_
  refine zs_iload_n (pc := 5) dW_matches_5 rfl ?_
  refine zs_iload_n (pc := 6) dW_matches_6 rfl ?_
  refine zcVR_3 (pc := 7) (d2 := d - 1) (s_X_matches hl (by omega) hX9 hB y z w) dW_matches_7 kW_78 mdX_matches miX_matches mvX_matches rfl (by exact hx) rfl (Nat.le_of_ble_eq_true rfl) (by omega) (by omega) (by omega) (fun v h1 n1 hq => ?_) (fun E h1 n1 hq => ?_)
  · obtain ⟨o1, rfl, rfl⟩ := hq.1.l
    have o1 : (aMat g y z w).1 = 0 := o1
    refine zs_if_eq (pc := 10) 17 dW_matches_10 rfl (fun hb => ?_) (fun hb => ?_)
    · rw [if_pos hb]
      refine zs_lconst (pc := 17) (v := 0) dW_matches_17 (by decide) ?_
      refine zs_last (pc := 18) dW_matches_18 (by exact (hq.2.1 r hr).trans h3) (vp_in_nI (by decide) (by decide)) ?_
      refine zs_goto (pc := 19) 30 dW_matches_19 rfl ?_
      refine zs_iconst (pc := 30) dW_matches_30 zi_0 ?_
      exact zs_iret (pc := 31) dW_matches_31 rfl rfl (by omega) (by omega) (⟨by rw [o1], Nat.le_refl _, fun q q1 q2 => (zu_n q2).trans (hq.2.1 q q1), XR.sm hq.2.2 (fun q g1 g2 => zu_n (by omega)), _, zu_s, fun _ => if_pos (by decide)⟩)
    · rw [if_neg hb]
      refine zs_lconst (pc := 13) (v := 1) dW_matches_13 (by decide) ?_
      refine zs_goto (pc := 14) 18 dW_matches_14 rfl ?_
      refine zs_last (pc := 18) dW_matches_18 (by exact (hq.2.1 r hr).trans h3) (vp_in_nI (by decide) (by decide)) ?_
      refine zs_goto (pc := 19) 30 dW_matches_19 rfl ?_
      refine zs_iconst (pc := 30) dW_matches_30 zi_0 ?_
      exact zs_iret (pc := 31) dW_matches_31 rfl rfl (by omega) (by omega) (⟨by rw [o1], Nat.le_refl _, fun q q1 q2 => (zu_n q2).trans (hq.2.1 q q1), XR.sm hq.2.2 (fun q g1 g2 => zu_n (by omega)), _, zu_s, fun _ => if_pos (by decide)⟩)
  · obtain ⟨o1, oE, o3⟩ := hq.1.r
    have o1 : (aMat g y z w).1 ≠ 0 := o1
    have hlt : (aMat g y z w).1 < 3 := by
        unfold aMat
        (repeat' split) <;> exact Nat.le_of_ble_eq_true rfl
    have ha : (aMat g y z w).1 = 1 ∨ (aMat g y z w).1 = 2 := by omega
    rcases ha with ha | ha
    · obtain rfl : E = sNS := oE.trans (congrArg (fun k => List.getD ["", sNS, sIA] k "") ha)
      refine zx_catch (pc := 7) [] (0, 19, 22, 21) [(0, 19, 26, 13)] rfl (fun z hz => by cases hz) rfl (by decide) kcW_21 (zt2 (i := 238) rfl) (fun q => ?_)
      refine zs_astore (pc := 22) (ls2 := [_, _, _, _, _, _]) dW_matches_22 (Nat.le_of_ble_eq_true rfl) rfl ?_
      refine zs_iconst (pc := 24) dW_matches_24 zi_1 ?_
      exact zs_iret (pc := 25) dW_matches_25 rfl rfl (by omega) (by omega) (⟨by rw [ha], o3, fun q q1 q2 => hq.2.1 q q1, hq.2.2, f0, (hq.2.1 r hr).trans h3, fun q => absurd q o1⟩)
    · obtain rfl : E = sIA := oE.trans (congrArg (fun k => List.getD ["", sNS, sIA] k "") ha)
      refine zx_catch (pc := 7) [(0, 19, 22, 21)] (0, 19, 26, 13) [] rfl (by
          intro z hz
          rcases List.mem_cons.mp hz with rfl | hz
          · exact ⟨by decide, "java/util/NoSuchElementException", kcW_21, by decide +kernel⟩
          cases hz) rfl (by decide) kcW_13 (zt2 (i := 77) rfl) (fun q => ?_)
      refine zs_astore (pc := 26) (ls2 := [_, _, _, _, _, _]) dW_matches_26 (Nat.le_of_ble_eq_true rfl) rfl ?_
      refine zs_iconst (pc := 28) dW_matches_28 zi_2 ?_
      exact zs_iret (pc := 29) dW_matches_29 rfl rfl (by omega) (by omega) (⟨by rw [ha], o3, fun q q1 q2 => hq.2.1 q q1, hq.2.2, f0, (hq.2.1 r hr).trans h3, fun q => absurd q o1⟩)
theorem s_W_entriesIn {Γ : zG} {l : Launch} (hl : l.stackTraces = false) {d : Nat} (hd : 10 ≤ d) {h : zH} {n : Nat} {B x c np : Nat} {g T : Nat → Nat} {P : Nat → Nat → Nat} {sv : Option (Nat → Nat)} {er fl : Option Nat} {L : List Nat} (hX : XR B h x g P c sv er fl T np L) (hB : B < 2 ^ 20)         (y : Int32) {r : Nat} {f0 : Nat → Int64} (hr : r < x ∨ x + 481 ≤ r) (h3 : h r = some (.inl (4, 1, .inr (.inl f0)))) : zC Γ l d mW_entriesIn [.ref x, .int y, .ref r] h n 1 6 (zWq x r n h (aIn g y).1 (((aIn g y)).2).toInt64 (fun h1 => XR B h1 x g P c sv er fl T np L)) := by
  have hX9 := hX
  obtain ⟨⟨st, hst, hx, htr⟩, -⟩ := hX
  refine zC_ofX (ls := [some (.ref x), some (.int y), some (.ref r), none]) hl (by decide +kernel) (by decide) (Nat.le_of_ble_eq_true rfl) rfl ?_
  refine zs_aload_n (pc := 0) dW_entriesIn_0 rfl ?_
  refine zs_iconst (pc := 1) dW_entriesIn_1 zi_0 ?_
  refine zs_aload_n (pc := 2) dW_entriesIn_2 rfl ?_
  refine zs_iload_n (pc := 3) dW_entriesIn_3 rfl ?_
  refine zcVR_1 (pc := 4) (d2 := d - 1) (s_X_entriesIn hl hX9 hB y) dW_entriesIn_4 kW_82 mdX_entriesIn miX_entriesIn mvX_entriesIn rfl (by exact hx) rfl (Nat.le_of_ble_eq_true rfl) (by omega) (by omega) (by omega) (fun v h1 n1 hq => ?_) (fun E h1 n1 hq => ?_)
  · obtain ⟨o1, rfl, rfl⟩ := hq.1.l
    have o1 : (aIn g y).1 = 0 := o1
    refine zs_i2l (pc := 7) dW_entriesIn_7 ?_
    refine zs_last (pc := 8) dW_entriesIn_8 (by exact (hq.2.1 r hr).trans h3) (vp_in_nI (by decide) (by decide)) ?_
    refine zs_goto (pc := 9) 15 dW_entriesIn_9 rfl ?_
    refine zs_iconst (pc := 15) dW_entriesIn_15 zi_0 ?_
    exact zs_iret (pc := 16) dW_entriesIn_16 rfl rfl (by omega) (by omega) (⟨by rw [o1], Nat.le_refl _, fun q q1 q2 => (zu_n q2).trans (hq.2.1 q q1), XR.sm hq.2.2 (fun q g1 g2 => zu_n (by omega)), _, zu_s, fun _ => if_pos (by decide)⟩)
  · obtain ⟨o1, oE, o3⟩ := hq.1.r
    have o1 : (aIn g y).1 ≠ 0 := o1
    have hlt : (aIn g y).1 < 2 := by
        unfold aIn
        (repeat' split) <;> exact Nat.le_of_ble_eq_true rfl
    have ha : (aIn g y).1 = 1 := by omega
    obtain rfl : E = sIB := oE.trans (congrArg (fun k => List.getD ["", sIB] k "") ha)
    refine zx_catch (pc := 4) [] (0, 9, 12, 42) [] rfl (fun z hz => by cases hz) rfl (by decide) kcW_42 (zt3 (i := 163) rfl) (fun q => ?_)
    refine zs_astore_n (pc := 12) (ls2 := [_, _, _, _]) dW_entriesIn_12 (Nat.le_of_ble_eq_true rfl) rfl ?_
    refine zs_iconst (pc := 13) dW_entriesIn_13 zi_1 ?_
    exact zs_iret (pc := 14) dW_entriesIn_14 rfl rfl (by omega) (by omega) (⟨by rw [ha], o3, fun q q1 q2 => hq.2.1 q q1, hq.2.2, f0, (hq.2.1 r hr).trans h3, fun q => absurd q o1⟩)
theorem s_W_resultCount {Γ : zG} {l : Launch} (hl : l.stackTraces = false) {d : Nat} (hd : 10 ≤ d) {h : zH} {n : Nat} {B x c np : Nat} {g T : Nat → Nat} {P : Nat → Nat → Nat} {sv : Option (Nat → Nat)} {er fl : Option Nat} {L : List Nat} (hX : XR B h x g P c sv er fl T np L) (hB : B < 2 ^ 20) (y z : Int32) {r : Nat} {f0 : Nat → Int64} (hr : r < x ∨ x + 481 ≤ r) (h3 : h r = some (.inl (4, 1, .inr (.inl f0)))) : zC Γ l d mW_resultCount [.ref x, .int y, .int z, .ref r] h n 1 6 (zWq x r n h (aRes g y z).1 (((aRes g y z)).2).toInt64 (fun h1 => XR B h1 x g P c sv er fl T np L)) := by
  have hX9 := hX
  obtain ⟨⟨st, hst, hx, htr⟩, -⟩ := hX
  refine zC_ofX (ls := [some (.ref x), some (.int y), some (.int z), some (.ref r), none]) hl (by decide +kernel) (by decide) (Nat.le_of_ble_eq_true rfl) rfl ?_
  refine zs_aload_n (pc := 0) dW_resultCount_0 rfl ?_
  refine zs_iconst (pc := 1) dW_resultCount_1 zi_0 ?_
  refine zs_aload_n (pc := 2) dW_resultCount_2 rfl ?_
  refine zs_iload_n (pc := 3) dW_resultCount_3 rfl ?_
  refine zs_iload_n (pc := 4) dW_resultCount_4 rfl ?_
  refine zcVR_2 (pc := 5) (d2 := d - 1) (s_X_resultCount hl (by omega) hX9 hB y z) dW_resultCount_5 kW_85 mdX_resultCount miX_resultCount mvX_resultCount rfl (by exact hx) rfl (Nat.le_of_ble_eq_true rfl) (by omega) (by omega) (by omega) (fun v h1 n1 hq => ?_) (fun E h1 n1 hq => ?_)
  · obtain ⟨o1, rfl, rfl⟩ := hq.1.l
    have o1 : (aRes g y z).1 = 0 := o1
    refine zs_i2l (pc := 8) dW_resultCount_8 ?_
    refine zs_last (pc := 9) dW_resultCount_9 (by exact (hq.2.1 r hr).trans h3) (vp_in_nI (by decide) (by decide)) ?_
    refine zs_goto (pc := 10) 17 dW_resultCount_10 rfl ?_
    refine zs_iconst (pc := 17) dW_resultCount_17 zi_0 ?_
    exact zs_iret (pc := 18) dW_resultCount_18 rfl rfl (by omega) (by omega) (⟨by rw [o1], Nat.le_refl _, fun q q1 q2 => (zu_n q2).trans (hq.2.1 q q1), XR.sm hq.2.2 (fun q g1 g2 => zu_n (by omega)), _, zu_s, fun _ => if_pos (by decide)⟩)
  · obtain ⟨o1, oE, o3⟩ := hq.1.r
    have o1 : (aRes g y z).1 ≠ 0 := o1
    have hlt : (aRes g y z).1 < 2 := by
        unfold aRes
        (repeat' split) <;> exact Nat.le_of_ble_eq_true rfl
    have ha : (aRes g y z).1 = 1 := by omega
    obtain rfl : E = sIA := oE.trans (congrArg (fun k => List.getD ["", sIA] k "") ha)
    refine zx_catch (pc := 5) [] (0, 10, 13, 13) [] rfl (fun z hz => by cases hz) rfl (by decide) kcW_13 (zt2 (i := 77) rfl) (fun q => ?_)
    refine zs_astore (pc := 13) (ls2 := [_, _, _, _, _]) dW_resultCount_13 (Nat.le_of_ble_eq_true rfl) rfl ?_
    refine zs_iconst (pc := 15) dW_resultCount_15 zi_1 ?_
    exact zs_iret (pc := 16) dW_resultCount_16 rfl rfl (by omega) (by omega) (⟨by rw [ha], o3, fun q q1 q2 => hq.2.1 q q1, hq.2.2, f0, (hq.2.1 r hr).trans h3, fun q => absurd q o1⟩)
theorem s_W_resultCountByScan {Γ : zG} {l : Launch} (hl : l.stackTraces = false) {d : Nat} (hd : 10 ≤ d) {h : zH} {n : Nat} {B x c np : Nat} {g T : Nat → Nat} {P : Nat → Nat → Nat} {sv : Option (Nat → Nat)} {er fl : Option Nat} {L : List Nat} (hX : XR B h x g P c sv er fl T np L) (hB : B < 2 ^ 20) (y z : Int32) {r : Nat} {f0 : Nat → Int64} (hr : r < x ∨ x + 481 ≤ r) (h3 : h r = some (.inl (4, 1, .inr (.inl f0)))) : zC Γ l d mW_resultCountByScan [.ref x, .int y, .int z, .ref r] h n 1 6 (zWq x r n h (aRes g y z).1 (((aRes g y z)).2).toInt64 (fun h1 => XR B h1 x g P c sv er fl T np L)) := by
  have hX9 := hX
  obtain ⟨⟨st, hst, hx, htr⟩, -⟩ := hX
  refine zC_ofX (ls := [some (.ref x), some (.int y), some (.int z), some (.ref r), none]) hl (by decide +kernel) (by decide) (Nat.le_of_ble_eq_true rfl) rfl ?_
  refine zs_aload_n (pc := 0) dW_resultCountByScan_0 rfl ?_
  refine zs_iconst (pc := 1) dW_resultCountByScan_1 zi_0 ?_
  refine zs_aload_n (pc := 2) dW_resultCountByScan_2 rfl ?_
  refine zs_iload_n (pc := 3) dW_resultCountByScan_3 rfl ?_
  refine zs_iload_n (pc := 4) dW_resultCountByScan_4 rfl ?_
  refine zcVR_2 (pc := 5) (d2 := d - 1) (s_X_resultCountByScan hl (by omega) hX9 hB y z) dW_resultCountByScan_5 kW_88 mdX_resultCountByScan miX_resultCountByScan mvX_resultCountByScan rfl (by exact hx) rfl (Nat.le_of_ble_eq_true rfl) (by omega) (by omega) (by omega) (fun v h1 n1 hq => ?_) (fun E h1 n1 hq => ?_)
  · obtain ⟨o1, rfl, rfl⟩ := hq.1.l
    have o1 : (aRes g y z).1 = 0 := o1
    refine zs_i2l (pc := 8) dW_resultCountByScan_8 ?_
    refine zs_last (pc := 9) dW_resultCountByScan_9 (by exact (hq.2.1 r hr).trans h3) (vp_in_nI (by decide) (by decide)) ?_
    refine zs_goto (pc := 10) 17 dW_resultCountByScan_10 rfl ?_
    refine zs_iconst (pc := 17) dW_resultCountByScan_17 zi_0 ?_
    exact zs_iret (pc := 18) dW_resultCountByScan_18 rfl rfl (by omega) (by omega) (⟨by rw [o1], Nat.le_refl _, fun q q1 q2 => (zu_n q2).trans (hq.2.1 q q1), XR.sm hq.2.2 (fun q g1 g2 => zu_n (by omega)), _, zu_s, fun _ => if_pos (by decide)⟩)
  · obtain ⟨o1, oE, o3⟩ := hq.1.r
    have o1 : (aRes g y z).1 ≠ 0 := o1
    have hlt : (aRes g y z).1 < 2 := by
        unfold aRes
        (repeat' split) <;> exact Nat.le_of_ble_eq_true rfl
    have ha : (aRes g y z).1 = 1 := by omega
    obtain rfl : E = sIA := oE.trans (congrArg (fun k => List.getD ["", sIA] k "") ha)
    refine zx_catch (pc := 5) [] (0, 10, 13, 13) [] rfl (fun z hz => by cases hz) rfl (by decide) kcW_13 (zt2 (i := 77) rfl) (fun q => ?_)
    refine zs_astore (pc := 13) (ls2 := [_, _, _, _, _]) dW_resultCountByScan_13 (Nat.le_of_ble_eq_true rfl) rfl ?_
    refine zs_iconst (pc := 15) dW_resultCountByScan_15 zi_1 ?_
    exact zs_iret (pc := 16) dW_resultCountByScan_16 rfl rfl (by omega) (by omega) (⟨by rw [ha], o3, fun q q1 q2 => hq.2.1 q q1, hq.2.2, f0, (hq.2.1 r hr).trans h3, fun q => absurd q o1⟩)
theorem s_W_resultAt {Γ : zG} {l : Launch} (hl : l.stackTraces = false) {d : Nat} (hd : 10 ≤ d) {h : zH} {n : Nat} {B x c np : Nat} {g T : Nat → Nat} {P : Nat → Nat → Nat} {sv : Option (Nat → Nat)} {er fl : Option Nat} {L : List Nat} (hX : XR B h x g P c sv er fl T np L) (hB : B < 2 ^ 20) (y z w : Int32) {r : Nat} {f0 : Nat → Int64} (hr : r < x ∨ x + 481 ≤ r) (h3 : h r = some (.inl (4, 1, .inr (.inl f0)))) : zC Γ l d mW_resultAt [.ref x, .int y, .int z, .int w, .ref r] h n 1 6 (zWq x r n h (aResAt g y z w).1 (((aResAt g y z w)).2).toInt64 (fun h1 => XR B h1 x g P c sv er fl T np L)) := by
  have hX9 := hX
  obtain ⟨⟨st, hst, hx, htr⟩, -⟩ := hX
  refine zC_ofX (ls := [some (.ref x), some (.int y), some (.int z), some (.int w), some (.ref r), none]) hl (by decide +kernel) (by decide) (Nat.le_of_ble_eq_true rfl) rfl ?_
  refine zs_aload (pc := 0) dW_resultAt_0 rfl ?_
  refine zs_iconst (pc := 2) dW_resultAt_2 zi_0 ?_
  refine zs_aload_n (pc := 3) dW_resultAt_3 rfl ?_
  refine zs_iload_n (pc := 4) dW_resultAt_4 rfl ?_
  refine zs_iload_n (pc := 5) dW_resultAt_5 rfl ?_
  refine zs_iload_n (pc := 6) dW_resultAt_6 rfl ?_
  refine zcVR_3 (pc := 7) (d2 := d - 1) (s_X_resultAt hl (by omega) hX9 hB y z w) dW_resultAt_7 kW_91 mdX_resultAt miX_resultAt mvX_resultAt rfl (by exact hx) rfl (Nat.le_of_ble_eq_true rfl) (by omega) (by omega) (by omega) (fun v h1 n1 hq => ?_) (fun E h1 n1 hq => ?_)
  · obtain ⟨o1, rfl, rfl⟩ := hq.1.l
    have o1 : (aResAt g y z w).1 = 0 := o1
    refine zs_i2l (pc := 10) dW_resultAt_10 ?_
    refine zs_last (pc := 11) dW_resultAt_11 (by exact (hq.2.1 r hr).trans h3) (vp_in_nI (by decide) (by decide)) ?_
    refine zs_goto (pc := 12) 23 dW_resultAt_12 rfl ?_
    refine zs_iconst (pc := 23) dW_resultAt_23 zi_0 ?_
    exact zs_iret (pc := 24) dW_resultAt_24 rfl rfl (by omega) (by omega) (⟨by rw [o1], Nat.le_refl _, fun q q1 q2 => (zu_n q2).trans (hq.2.1 q q1), XR.sm hq.2.2 (fun q g1 g2 => zu_n (by omega)), _, zu_s, fun _ => if_pos (by decide)⟩)
  · obtain ⟨o1, oE, o3⟩ := hq.1.r
    have o1 : (aResAt g y z w).1 ≠ 0 := o1
    have hlt : (aResAt g y z w).1 < 3 := by
        unfold aResAt
        (repeat' split) <;> exact Nat.le_of_ble_eq_true rfl
    have ha : (aResAt g y z w).1 = 1 ∨ (aResAt g y z w).1 = 2 := by omega
    rcases ha with ha | ha
    · obtain rfl : E = sIA := oE.trans (congrArg (fun k => List.getD ["", sIA, sNS] k "") ha)
      refine zx_catch (pc := 7) [] (0, 12, 15, 13) [(0, 12, 19, 21)] rfl (fun z hz => by cases hz) rfl (by decide) kcW_13 (zt2 (i := 77) rfl) (fun q => ?_)
      refine zs_astore (pc := 15) (ls2 := [_, _, _, _, _, _]) dW_resultAt_15 (Nat.le_of_ble_eq_true rfl) rfl ?_
      refine zs_iconst (pc := 17) dW_resultAt_17 zi_1 ?_
      exact zs_iret (pc := 18) dW_resultAt_18 rfl rfl (by omega) (by omega) (⟨by rw [ha], o3, fun q q1 q2 => hq.2.1 q q1, hq.2.2, f0, (hq.2.1 r hr).trans h3, fun q => absurd q o1⟩)
    · obtain rfl : E = sNS := oE.trans (congrArg (fun k => List.getD ["", sIA, sNS] k "") ha)
      refine zx_catch (pc := 7) [(0, 12, 15, 13)] (0, 12, 19, 21) [] rfl (by
          intro z hz
          rcases List.mem_cons.mp hz with rfl | hz
          · exact ⟨by decide, "java/lang/IllegalArgumentException", kcW_13, by decide +kernel⟩
          cases hz) rfl (by decide) kcW_21 (zt2 (i := 238) rfl) (fun q => ?_)
      refine zs_astore (pc := 19) (ls2 := [_, _, _, _, _, _]) dW_resultAt_19 (Nat.le_of_ble_eq_true rfl) rfl ?_
      refine zs_iconst (pc := 21) dW_resultAt_21 zi_2 ?_
      exact zs_iret (pc := 22) dW_resultAt_22 rfl rfl (by omega) (by omega) (⟨by rw [ha], o3, fun q q1 q2 => hq.2.1 q q1, hq.2.2, f0, (hq.2.1 r hr).trans h3, fun q => absurd q o1⟩)

