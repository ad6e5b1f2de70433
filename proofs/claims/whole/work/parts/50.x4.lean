/-! the changes -/
theorem zOut.l {Es : List String} {a : Nat × Int32} {n n1 : Nat} {v : Option Value} (h : zOut Es a n (.inl v) n1) : a.1 = 0 ∧ v = some (.int a.2) ∧ n1 = n := by
  by_cases e : a.1 = 0
  · obtain ⟨h1, h2⟩ := h.1 e
    exact ⟨e, Sum.inl.inj h1, h2⟩
  · have h1 := (h.2 e).1
    cases h1
theorem zOut.r {Es : List String} {a : Nat × Int32} {n n1 : Nat} {E : String} (h : zOut Es a n (.inr E) n1) : a.1 ≠ 0 ∧ E = Es.getD a.1 "" ∧ n ≤ n1 := by
  by_cases e : a.1 = 0
  · have h1 := (h.1 e).1
    cases h1
  · obtain ⟨h1, h2⟩ := h.2 e
    exact ⟨e, Sum.inr.inj h1, h2⟩
theorem s_X_addEntry {Γ : zG} {l : Launch} (hl : l.stackTraces = false) {d : Nat} (hd : 7 ≤ d) {h : zH} {n : Nat} {B x c np : Nat} {g T : Nat → Nat} {P : Nat → Nat → Nat} {sv : Option (Nat → Nat)} {er fl : Option Nat} {L : List Nat} (hX : XR B h x g P c sv er fl T np L) (hB : B < 2 ^ 20) (y : Int32) : zC Γ l d mX_addEntry [.ref x, .int y] h n 1 6 (zXq x h n (zEs 0) ((zdo g 0 y (nI 0)).1, zans 0 (zdo g 0 y (nI 0))) (fun h1 => XR (B + 20) h1 x (zdo g 0 y (nI 0)).2.2 (zkP (zdo g 0 y (nI 0)).1 P c g) (zkc (zdo g 0 y (nI 0)).1 c) sv er fl T np L)) := by
  have hX9 := hX; obtain ⟨⟨st, hst, hx, htr⟩, hR, hI, hsv, hH, hrk, hpg, hn60, hTc, hL, hag⟩ := hX; have i0 := hI.1
  refine zC_of (ls := [some (.ref x), some (.int y)]) hl (by decide +kernel) rfl (Nat.le_of_ble_eq_true rfl) rfl ?_
  refine zs_aload_n (pc := 0) dX_addEntry_0 rfl ?_
  refine zs_iconst (pc := 1) dX_addEntry_1 zi_0 ?_
  refine zs_iload_n (pc := 2) dX_addEntry_2 rfl ?_
  refine zs_iconst (pc := 3) dX_addEntry_3 zi_0 ?_
  refine zcVR_3 (pc := 4) (d2 := d - 1) (s_X_change hl (by omega) hX9 hB (k := 0) (by decide) y (nI 0)) dX_addEntry_4 kX_75 mdX_change miX_change mvX_change rfl (by exact hx) rfl (Nat.le_of_ble_eq_true rfl) (by omega) (by omega) (by omega) (fun v h1 n1 hq => ?_) (fun E h1 n1 hq => ?_)
  · obtain ⟨o1, rfl, rfl⟩ := hq.1.l
    exact zs_iret (pc := 7) dX_addEntry_7 rfl rfl (by omega) (by omega) (hq)
  · exact zx_out rfl (by omega) (by omega) hq
theorem s_X_addCode {Γ : zG} {l : Launch} (hl : l.stackTraces = false) {d : Nat} (hd : 7 ≤ d) {h : zH} {n : Nat} {B x c np : Nat} {g T : Nat → Nat} {P : Nat → Nat → Nat} {sv : Option (Nat → Nat)} {er fl : Option Nat} {L : List Nat} (hX : XR B h x g P c sv er fl T np L) (hB : B < 2 ^ 20) (y z : Int32) : zC Γ l d mX_addCode [.ref x, .int y, .int z] h n 1 6 (zXq x h n (zEs 1) ((zdo g 1 y z).1, zans 1 (zdo g 1 y z)) (fun h1 => XR (B + 20) h1 x (zdo g 1 y z).2.2 (zkP (zdo g 1 y z).1 P c g) (zkc (zdo g 1 y z).1 c) sv er fl T np L)) := by
  have hX9 := hX; obtain ⟨⟨st, hst, hx, htr⟩, hR, hI, hsv, hH, hrk, hpg, hn60, hTc, hL, hag⟩ := hX; have i0 := hI.1
  refine zC_of (ls := [some (.ref x), some (.int y), some (.int z)]) hl (by decide +kernel) rfl (Nat.le_of_ble_eq_true rfl) rfl ?_
  refine zs_aload_n (pc := 0) dX_addCode_0 rfl ?_
  refine zs_iconst (pc := 1) dX_addCode_1 zi_1 ?_
  refine zs_iload_n (pc := 2) dX_addCode_2 rfl ?_
  refine zs_iload_n (pc := 3) dX_addCode_3 rfl ?_
  refine zcVR_3 (pc := 4) (d2 := d - 1) (s_X_change hl (by omega) hX9 hB (k := 1) (by decide) y z) dX_addCode_4 kX_75 mdX_change miX_change mvX_change rfl (by exact hx) rfl (Nat.le_of_ble_eq_true rfl) (by omega) (by omega) (by omega) (fun v h1 n1 hq => ?_) (fun E h1 n1 hq => ?_)
  · obtain ⟨o1, rfl, rfl⟩ := hq.1.l
    exact zs_iret (pc := 7) dX_addCode_7 rfl rfl (by omega) (by omega) (hq)
  · exact zx_out rfl (by omega) (by omega) hq
theorem s_X_removeCode {Γ : zG} {l : Launch} (hl : l.stackTraces = false) {d : Nat} (hd : 7 ≤ d) {h : zH} {n : Nat} {B x c np : Nat} {g T : Nat → Nat} {P : Nat → Nat → Nat} {sv : Option (Nat → Nat)} {er fl : Option Nat} {L : List Nat} (hX : XR B h x g P c sv er fl T np L) (hB : B < 2 ^ 20) (y z : Int32) : zC Γ l d mX_removeCode [.ref x, .int y, .int z] h n 1 6 (zXq x h n (zEs 2) ((zdo g 2 y z).1, zans 2 (zdo g 2 y z)) (fun h1 => XR (B + 20) h1 x (zdo g 2 y z).2.2 (zkP (zdo g 2 y z).1 P c g) (zkc (zdo g 2 y z).1 c) sv er fl T np L)) := by
  have hX9 := hX; obtain ⟨⟨st, hst, hx, htr⟩, hR, hI, hsv, hH, hrk, hpg, hn60, hTc, hL, hag⟩ := hX; have i0 := hI.1
  refine zC_of (ls := [some (.ref x), some (.int y), some (.int z)]) hl (by decide +kernel) rfl (Nat.le_of_ble_eq_true rfl) rfl ?_
  refine zs_aload_n (pc := 0) dX_removeCode_0 rfl ?_
  refine zs_iconst (pc := 1) dX_removeCode_1 zi_2 ?_
  refine zs_iload_n (pc := 2) dX_removeCode_2 rfl ?_
  refine zs_iload_n (pc := 3) dX_removeCode_3 rfl ?_
  refine zcVR_3 (pc := 4) (d2 := d - 1) (s_X_change hl (by omega) hX9 hB (k := 2) (by decide) y z) dX_removeCode_4 kX_75 mdX_change miX_change mvX_change rfl (by exact hx) rfl (Nat.le_of_ble_eq_true rfl) (by omega) (by omega) (by omega) (fun v h1 n1 hq => ?_) (fun E h1 n1 hq => ?_)
  · obtain ⟨o1, rfl, rfl⟩ := hq.1.l
    exact zs_iret (pc := 7) dX_removeCode_7 rfl rfl (by omega) (by omega) (hq)
  · exact zx_out rfl (by omega) (by omega) hq
theorem s_X_removeEntry {Γ : zG} {l : Launch} (hl : l.stackTraces = false) {d : Nat} (hd : 7 ≤ d) {h : zH} {n : Nat} {B x c np : Nat} {g T : Nat → Nat} {P : Nat → Nat → Nat} {sv : Option (Nat → Nat)} {er fl : Option Nat} {L : List Nat} (hX : XR B h x g P c sv er fl T np L) (hB : B < 2 ^ 20) (y : Int32) : zC Γ l d mX_removeEntry [.ref x, .int y] h n 1 6 (zXq x h n (zEs 3) ((zdo g 3 y (nI 0)).1, zans 3 (zdo g 3 y (nI 0))) (fun h1 => XR (B + 20) h1 x (zdo g 3 y (nI 0)).2.2 (zkP (zdo g 3 y (nI 0)).1 P c g) (zkc (zdo g 3 y (nI 0)).1 c) sv er fl T np L)) := by
  have hX9 := hX; obtain ⟨⟨st, hst, hx, htr⟩, hR, hI, hsv, hH, hrk, hpg, hn60, hTc, hL, hag⟩ := hX; have i0 := hI.1
  refine zC_of (ls := [some (.ref x), some (.int y)]) hl (by decide +kernel) rfl (Nat.le_of_ble_eq_true rfl) rfl ?_
  refine zs_aload_n (pc := 0) dX_removeEntry_0 rfl ?_
  refine zs_iconst (pc := 1) dX_removeEntry_1 zi_3 ?_
  refine zs_iload_n (pc := 2) dX_removeEntry_2 rfl ?_
  refine zs_iconst (pc := 3) dX_removeEntry_3 zi_0 ?_
  refine zcVR_3 (pc := 4) (d2 := d - 1) (s_X_change hl (by omega) hX9 hB (k := 3) (by decide) y (nI 0)) dX_removeEntry_4 kX_75 mdX_change miX_change mvX_change rfl (by exact hx) rfl (Nat.le_of_ble_eq_true rfl) (by omega) (by omega) (by omega) (fun v h1 n1 hq => ?_) (fun E h1 n1 hq => ?_)
  · obtain ⟨o1, rfl, rfl⟩ := hq.1.l
    exact zs_iret (pc := 7) dX_removeEntry_7 rfl rfl (by omega) (by omega) (hq)
  · exact zx_out rfl (by omega) (by omega) hq
theorem s_X_touch {Γ : zG} {l : Launch} (hl : l.stackTraces = false) {d : Nat} (hd : 7 ≤ d) {h : zH} {n : Nat} {B x c np : Nat} {g T : Nat → Nat} {P : Nat → Nat → Nat} {sv : Option (Nat → Nat)} {er fl : Option Nat} {L : List Nat} (hX : XR B h x g P c sv er fl T np L) (hB : B < 2 ^ 20) (y : Int32) : zC Γ l d mX_touch [.ref x, .int y] h n 1 6 (zXq x h n (zEs 4) ((zdo g 4 y (nI 0)).1, zans 4 (zdo g 4 y (nI 0))) (fun h1 => XR (B + 20) h1 x (zdo g 4 y (nI 0)).2.2 (zkP (zdo g 4 y (nI 0)).1 P c g) (zkc (zdo g 4 y (nI 0)).1 c) sv er fl T np L)) := by
  have hX9 := hX; obtain ⟨⟨st, hst, hx, htr⟩, hR, hI, hsv, hH, hrk, hpg, hn60, hTc, hL, hag⟩ := hX; have i0 := hI.1
  refine zC_of (ls := [some (.ref x), some (.int y)]) hl (by decide +kernel) rfl (Nat.le_of_ble_eq_true rfl) rfl ?_
  refine zs_aload_n (pc := 0) dX_touch_0 rfl ?_
  refine zs_iconst (pc := 1) dX_touch_1 zi_4 ?_
  refine zs_iload_n (pc := 2) dX_touch_2 rfl ?_
  refine zs_iconst (pc := 3) dX_touch_3 zi_0 ?_
  refine zcVR_3 (pc := 4) (d2 := d - 1) (s_X_change hl (by omega) hX9 hB (k := 4) (by decide) y (nI 0)) dX_touch_4 kX_75 mdX_change miX_change mvX_change rfl (by exact hx) rfl (Nat.le_of_ble_eq_true rfl) (by omega) (by omega) (by omega) (fun v h1 n1 hq => ?_) (fun E h1 n1 hq => ?_)
  · obtain ⟨o1, rfl, rfl⟩ := hq.1.l
    exact zs_iret (pc := 7) dX_touch_7 rfl rfl (by omega) (by omega) (hq)
  · exact zx_out rfl (by omega) (by omega) hq
theorem s_X_merge {Γ : zG} {l : Launch} (hl : l.stackTraces = false) {d : Nat} (hd : 7 ≤ d) {h : zH} {n : Nat} {B x c np : Nat} {g T : Nat → Nat} {P : Nat → Nat → Nat} {sv : Option (Nat → Nat)} {er fl : Option Nat} {L : List Nat} (hX : XR B h x g P c sv er fl T np L) (hB : B < 2 ^ 20) (y z : Int32) : zC Γ l d mX_merge [.ref x, .int y, .int z] h n 1 6 (zXq x h n (zEs 5) ((zdo g 5 y z).1, zans 5 (zdo g 5 y z)) (fun h1 => XR (B + 20) h1 x (zdo g 5 y z).2.2 (zkP (zdo g 5 y z).1 P c g) (zkc (zdo g 5 y z).1 c) sv er fl T np L)) := by
  have hX9 := hX; obtain ⟨⟨st, hst, hx, htr⟩, hR, hI, hsv, hH, hrk, hpg, hn60, hTc, hL, hag⟩ := hX; have i0 := hI.1
  refine zC_of (ls := [some (.ref x), some (.int y), some (.int z)]) hl (by decide +kernel) rfl (Nat.le_of_ble_eq_true rfl) rfl ?_
  refine zs_aload_n (pc := 0) dX_merge_0 rfl ?_
  refine zs_iconst (pc := 1) dX_merge_1 zi_5 ?_
  refine zs_iload_n (pc := 2) dX_merge_2 rfl ?_
  refine zs_iload_n (pc := 3) dX_merge_3 rfl ?_
  refine zcVR_3 (pc := 4) (d2 := d - 1) (s_X_change hl (by omega) hX9 hB (k := 5) (by decide) y z) dX_merge_4 kX_75 mdX_change miX_change mvX_change rfl (by exact hx) rfl (Nat.le_of_ble_eq_true rfl) (by omega) (by omega) (by omega) (fun v h1 n1 hq => ?_) (fun E h1 n1 hq => ?_)
  · obtain ⟨o1, rfl, rfl⟩ := hq.1.l
    exact zs_iret (pc := 7) dX_merge_7 rfl rfl (by omega) (by omega) (hq)
  · exact zx_out rfl (by omega) (by omega) hq
theorem s_X_startSegment {Γ : zG} {l : Launch} (hl : l.stackTraces = false) {d : Nat} (hd : 7 ≤ d) {h : zH} {n : Nat} {B x c np : Nat} {g T : Nat → Nat} {P : Nat → Nat → Nat} {sv : Option (Nat → Nat)} {er fl : Option Nat} {L : List Nat} (hX : XR B h x g P c sv er fl T np L) (hB : B < 2 ^ 20) : zC Γ l d mX_startSegment [.ref x] h n 1 6 (zXq x h n (zEs 6) ((zdo g 6 (nI 0) (nI 0)).1, zans 6 (zdo g 6 (nI 0) (nI 0))) (fun h1 => XR (B + 20) h1 x (zdo g 6 (nI 0) (nI 0)).2.2 (zkP (zdo g 6 (nI 0) (nI 0)).1 P c g) (zkc (zdo g 6 (nI 0) (nI 0)).1 c) sv er fl T np L)) := by
  have hX9 := hX; obtain ⟨⟨st, hst, hx, htr⟩, hR, hI, hsv, hH, hrk, hpg, hn60, hTc, hL, hag⟩ := hX; have i0 := hI.1
  refine zC_of (ls := [some (.ref x)]) hl (by decide +kernel) rfl (Nat.le_of_ble_eq_true rfl) rfl ?_
  refine zs_aload_n (pc := 0) dX_startSegment_0 rfl ?_
  refine zs_bipush (pc := 1) dX_startSegment_1 (zi_b 6 (by decide)) ?_
  refine zs_iconst (pc := 3) dX_startSegment_3 zi_0 ?_
  refine zs_iconst (pc := 4) dX_startSegment_4 zi_0 ?_
  refine zcVR_3 (pc := 5) (d2 := d - 1) (s_X_change hl (by omega) hX9 hB (k := 6) (by decide) (nI 0) (nI 0)) dX_startSegment_5 kX_75 mdX_change miX_change mvX_change rfl (by exact hx) rfl (Nat.le_of_ble_eq_true rfl) (by omega) (by omega) (by omega) (fun v h1 n1 hq => ?_) (fun E h1 n1 hq => ?_)
  · obtain ⟨o1, rfl, rfl⟩ := hq.1.l
    exact zs_iret (pc := 8) dX_startSegment_8 rfl rfl (by omega) (by omega) (hq)
  · exact zx_out rfl (by omega) (by omega) hq
theorem s_X_joinSegments {Γ : zG} {l : Launch} (hl : l.stackTraces = false) {d : Nat} (hd : 7 ≤ d) {h : zH} {n : Nat} {B x c np : Nat} {g T : Nat → Nat} {P : Nat → Nat → Nat} {sv : Option (Nat → Nat)} {er fl : Option Nat} {L : List Nat} (hX : XR B h x g P c sv er fl T np L) (hB : B < 2 ^ 20) (y : Int32) : zC Γ l d mX_joinSegments [.ref x, .int y] h n 1 6 (zXq x h n (zEs 7) ((zdo g 7 y (nI 0)).1, zans 7 (zdo g 7 y (nI 0))) (fun h1 => XR (B + 20) h1 x (zdo g 7 y (nI 0)).2.2 (zkP (zdo g 7 y (nI 0)).1 P c g) (zkc (zdo g 7 y (nI 0)).1 c) sv er fl T np L)) := by
  have hX9 := hX; obtain ⟨⟨st, hst, hx, htr⟩, hR, hI, hsv, hH, hrk, hpg, hn60, hTc, hL, hag⟩ := hX; have i0 := hI.1
  refine zC_of (ls := [some (.ref x), some (.int y)]) hl (by decide +kernel) rfl (Nat.le_of_ble_eq_true rfl) rfl ?_
  refine zs_aload_n (pc := 0) dX_joinSegments_0 rfl ?_
  refine zs_bipush (pc := 1) dX_joinSegments_1 (zi_b 7 (by decide)) ?_
  refine zs_iload_n (pc := 3) dX_joinSegments_3 rfl ?_
  refine zs_iconst (pc := 4) dX_joinSegments_4 zi_0 ?_
  refine zcVR_3 (pc := 5) (d2 := d - 1) (s_X_change hl (by omega) hX9 hB (k := 7) (by decide) y (nI 0)) dX_joinSegments_5 kX_75 mdX_change miX_change mvX_change rfl (by exact hx) rfl (Nat.le_of_ble_eq_true rfl) (by omega) (by omega) (by omega) (fun v h1 n1 hq => ?_) (fun E h1 n1 hq => ?_)
  · obtain ⟨o1, rfl, rfl⟩ := hq.1.l
    exact zs_iret (pc := 8) dX_joinSegments_8 rfl rfl (by omega) (by omega) (hq)
  · exact zx_out rfl (by omega) (by omega) hq
theorem s_X_search {Γ : zG} {l : Launch} (hl : l.stackTraces = false) {d : Nat} (hd : 7 ≤ d) {h : zH} {n : Nat} {B x c np : Nat} {g T : Nat → Nat} {P : Nat → Nat → Nat} {sv : Option (Nat → Nat)} {er fl : Option Nat} {L : List Nat} (hX : XR B h x g P c sv er fl T np L) (hB : B < 2 ^ 20) (y z : Int32) : zC Γ l d mX_search [.ref x, .int y, .int z] h n 1 6 (zXq x h n (zEs 8) ((zdo g 8 y z).1, zans 8 (zdo g 8 y z)) (fun h1 => XR (B + 20) h1 x (zdo g 8 y z).2.2 (zkP (zdo g 8 y z).1 P c g) (zkc (zdo g 8 y z).1 c) sv er fl T np L)) := by
  have hX9 := hX; obtain ⟨⟨st, hst, hx, htr⟩, hR, hI, hsv, hH, hrk, hpg, hn60, hTc, hL, hag⟩ := hX; have i0 := hI.1
  refine zC_of (ls := [some (.ref x), some (.int y), some (.int z)]) hl (by decide +kernel) rfl (Nat.le_of_ble_eq_true rfl) rfl ?_
  refine zs_aload_n (pc := 0) dX_search_0 rfl ?_
  refine zs_bipush (pc := 1) dX_search_1 (zi_b 8 (by decide)) ?_
  refine zs_iload_n (pc := 3) dX_search_3 rfl ?_
  refine zs_iload_n (pc := 4) dX_search_4 rfl ?_
  refine zcVR_3 (pc := 5) (d2 := d - 1) (s_X_change hl (by omega) hX9 hB (k := 8) (by decide) y z) dX_search_5 kX_75 mdX_change miX_change mvX_change rfl (by exact hx) rfl (Nat.le_of_ble_eq_true rfl) (by omega) (by omega) (by omega) (fun v h1 n1 hq => ?_) (fun E h1 n1 hq => ?_)
  · obtain ⟨o1, rfl, rfl⟩ := hq.1.l
    exact zs_iret (pc := 8) dX_search_8 rfl rfl (by omega) (by omega) (hq)
  · exact zx_out rfl (by omega) (by omega) hq
theorem s_X_pass {Γ : zG} {l : Launch} (hl : l.stackTraces = false) {d : Nat} (hd : 7 ≤ d) {h : zH} {n : Nat} {B x c np : Nat} {g T : Nat → Nat} {P : Nat → Nat → Nat} {sv : Option (Nat → Nat)} {er fl : Option Nat} {L : List Nat} (hX : XR B h x g P c sv er fl T np L) (hB : B < 2 ^ 20) (y : Int32) : zC Γ l d mX_pass [.ref x, .int y] h n 1 6 (zXq x h n (zEs 9) ((zdo g 9 y (nI 0)).1, zans 9 (zdo g 9 y (nI 0))) (fun h1 => XR (B + 20) h1 x (zdo g 9 y (nI 0)).2.2 (zkP (zdo g 9 y (nI 0)).1 P c g) (zkc (zdo g 9 y (nI 0)).1 c) sv er fl T np L)) := by
  have hX9 := hX; obtain ⟨⟨st, hst, hx, htr⟩, hR, hI, hsv, hH, hrk, hpg, hn60, hTc, hL, hag⟩ := hX; have i0 := hI.1
  refine zC_of (ls := [some (.ref x), some (.int y)]) hl (by decide +kernel) rfl (Nat.le_of_ble_eq_true rfl) rfl ?_
  refine zs_aload_n (pc := 0) dX_pass_0 rfl ?_
  refine zs_bipush (pc := 1) dX_pass_1 (zi_b 9 (by decide)) ?_
  refine zs_iload_n (pc := 3) dX_pass_3 rfl ?_
  refine zs_iconst (pc := 4) dX_pass_4 zi_0 ?_
  refine zcVR_3 (pc := 5) (d2 := d - 1) (s_X_change hl (by omega) hX9 hB (k := 9) (by decide) y (nI 0)) dX_pass_5 kX_75 mdX_change miX_change mvX_change rfl (by exact hx) rfl (Nat.le_of_ble_eq_true rfl) (by omega) (by omega) (by omega) (fun v h1 n1 hq => ?_) (fun E h1 n1 hq => ?_)
  · obtain ⟨o1, rfl, rfl⟩ := hq.1.l
    exact zs_iret (pc := 8) dX_pass_8 rfl rfl (by omega) (by omega) (hq)
  · exact zx_out rfl (by omega) (by omega) hq
/-! undo, the saved copy -/
theorem HR.I {B : Nat} {h : zH} {a c k : Nat} {P : Nat → Nat → Nat} (hH : HR B h a P c) (hk : k < c) : IG B (P k) := by
  obtain ⟨M, m, G, h1, h2, h3, h4, h5, h6, h7⟩ := hH
  rw [← h6 k hk]
  exact (h5 _ (by omega)).2
def aUndo (c : Nat) : Nat × Int32 := if c = 0 then (1, -1) else (0, nI (c - 1))
theorem s_X_undo {Γ : zG} {l : Launch} (hl : l.stackTraces = false) {d : Nat} (hd : 4 ≤ d) {h : zH} {n : Nat} {B x c np : Nat} {g T : Nat → Nat} {P : Nat → Nat → Nat} {sv : Option (Nat → Nat)} {er fl : Option Nat} {L : List Nat} (hX : XR B h x g P c sv er fl T np L) (hB : B < 2 ^ 20) : zC Γ l d mX_undo [.ref x] h n 1 6 (zXq x h n ["", sIS] (aUndo c) (fun h1 => XR B h1 x (if c = 0 then g else P (c - 1)) P (c - 1) sv er fl T np L)) := by
  have hX9 := hX; obtain ⟨⟨st, hst, hx, htr⟩, hR, hI, hsv, hH, hrk, hpg, hn60, hTc, hL, hag⟩ := hX; have i0 := hI.1
  obtain ⟨M0, m0, G0, a1, a2, hh, a4, a5, a6, a7⟩ := id hH
  unfold aUndo
  refine zC_of (ls := [some (.ref x)]) hl (by decide +kernel) rfl (Nat.le_of_ble_eq_true rfl) rfl ?_
  cases c with
  | zero =>
    rw [if_pos rfl, if_pos rfl]
    refine zs_aload_n (pc := 0) dX_undo_0 rfl ?_
    refine zs_get (pc := 1) dX_undo_1 fX_22 (by first | exact hx | exact hh | exact hx7 | exact hh7 | exact zu_s | (rw [zu_n (by omega)]; exact hh7)) (by rfl) ?_
    refine zs_get (pc := 4) dX_undo_4 fX_372 (by first | exact hx | exact hh | exact hx7 | exact hh7 | exact zu_s | (rw [zu_n (by omega)]; exact hh7)) (by rfl) ?_
    refine zn_if_ne (pc := 7) 21 dX_undo_7 rfl (by omega) (fun h9 => absurd h9 (by omega)) (fun _ => ?_)
    exact zs_throwW (pc := 10) (text := "no change can be undone") thIS (by decide) rfl dX_undo_10 dX_undo_13 dX_undo_14 dX_undo_17 dX_undo_20 (Nat.le_of_ble_eq_true rfl) (by omega) (by omega) (fun n2 hn2 => ⟨zOut.n rfl hn2, zfr.rf, hX9⟩)
  | succ c =>
    rw [if_neg (by omega), if_neg (by omega)]
    rw [show c + 1 - 1 = c by omega]
    refine zs_aload_n (pc := 0) dX_undo_0 rfl ?_
    refine zs_get (pc := 1) dX_undo_1 fX_22 (by first | exact hx | exact hh | exact hx7 | exact hh7 | exact zu_s | (rw [zu_n (by omega)]; exact hh7)) (by rfl) ?_
    refine zs_get (pc := 4) dX_undo_4 fX_372 (by first | exact hx | exact hh | exact hx7 | exact hh7 | exact zu_s | (rw [zu_n (by omega)]; exact hh7)) (by rfl) ?_
    refine zn_if_ne (pc := 7) 21 dX_undo_7 rfl (by omega) (fun _ => ?_) (fun h9 => absurd h9 (by omega))
    refine zs_aload_n (pc := 21) dX_undo_21 rfl ?_
    refine zs_get (pc := 22) dX_undo_22 fX_22 (by first | exact hx | exact hh | exact hx7 | exact hh7 | exact zu_s | (rw [zu_n (by omega)]; exact hh7)) (by rfl) ?_
    refine zs_aload_n (pc := 25) dX_undo_25 rfl ?_
    refine zs_get (pc := 26) dX_undo_26 fX_12 (by first | exact hx | exact hh | exact hx7 | exact hh7 | exact zu_s | (rw [zu_n (by omega)]; exact hh7)) (by rfl) ?_
    refine zcVQ_1 (pc := 29) (d2 := d - 1) (s_H_takeBack hl (by omega) hH hR (by omega)) dX_undo_29 kX_375 mdH_takeBack miH_takeBack mvH_takeBack rfl (by exact hh) rfl (Nat.le_of_ble_eq_true rfl) (by omega) (by omega) (by omega) (fun v h7 n1 hq => ?_) (fun E h1 n1 hq => absurd hq.1 (by intro q; cases q))
    obtain ⟨hv9, rfl, hf9, hH7, hR7⟩ := hq
    obtain rfl := Sum.inl.inj hv9
    have hx7 : h7 x = some (zXo x st sv.isSome er fl) := by rw [hf9 _ (by omega) (by omega)]; exact hx
    obtain ⟨M7, m7, G7, b1, b2, hh7, b4, b5, b6, b7⟩ := id hH7
    have hkz : ∀ q, q ≠ x → ¬ (x + 1 ≤ q ∧ q < x + 43) → ¬ (x + 85 ≤ q ∧ q < x + 465) → zu h7 x (zXo x 1 sv.isSome er fl) q = h q := fun q q0 q1 q2 => by rw [zu_n q0]; exact hf9 q (by omega) (by omega)
    refine zs_aload_n (pc := 32) dX_undo_32 rfl ?_
    refine zs_iconst (pc := 33) dX_undo_33 zi_1 ?_
    refine zs_put (pc := 34) (fs2 := [_, _, _, _, _, _, _, _, _, _, _, _]) dX_undo_34 fX_61 (by first | exact hx | exact hh | exact hx7 | exact hh7 | exact zu_s | (rw [zu_n (by omega)]; exact hh7)) (by rfl) (by rfl) (by exact Nat.le_of_ble_eq_true rfl) (by rfl) ?_
    refine zs_aload_n (pc := 37) dX_undo_37 rfl ?_
    refine zs_get (pc := 38) dX_undo_38 fX_22 (by first | exact hx | exact hh | exact hx7 | exact hh7 | exact zu_s | (rw [zu_n (by omega)]; exact hh7)) (by rfl) ?_
    refine zs_get (pc := 41) dX_undo_41 fX_372 (by first | exact hx | exact hh | exact hx7 | exact hh7 | exact zu_s | (rw [zu_n (by omega)]; exact hh7)) (by rfl) ?_
    exact zs_iret (pc := 44) dX_undo_44 rfl rfl (by omega) (by omega) (⟨zOut.y, fun q hq => hkz q (by omega) (by omega) (by omega), ⟨1, by decide, zu_s, (htr.old (g2 := P c)).sm (fun q q1 q2 => hkz q (by omega) (by omega) (by omega))⟩, hR7.sm (fun q q1 q2 => zu_n (by omega)), hH.I (by omega), hsv.sm (fun q q1 q2 => hkz q (by omega) (by omega) (by omega)), hH7.sm (fun q q1 q2 => zu_n (by omega)), hrk.sm (fun q q1 q2 => hkz q (by omega) (by omega) (by omega)), hpg.sm (fun q q1 q2 => hkz q (by omega) (by omega) (by omega)), hn60, hTc, hL.sm (fun q q1 q2 => hkz q (by omega) (by omega) (by omega)), hag.sm (fun q q1 q2 => hkz q (by omega) (by omega) (by omega))⟩)
theorem s_X_save {Γ : zG} {l : Launch} (hl : l.stackTraces = false) {d : Nat} (hd : 4 ≤ d) {h : zH} {n : Nat} {B x c np : Nat} {g T : Nat → Nat} {P : Nat → Nat → Nat} {sv : Option (Nat → Nat)} {er fl : Option Nat} {L : List Nat} (hX : XR B h x g P c sv er fl T np L) (hB : B < 2 ^ 20) : zC Γ l d mX_save [.ref x] h n 0 0 (zXq x h n [""] (0, nI (g 0)) (fun h1 => XR B h1 x g P c (some g) er fl T np L)) := by
  have hX9 := hX; obtain ⟨⟨st, hst, hx, htr⟩, hR, hI, hsv, hH, hrk, hpg, hn60, hTc, hL, hag⟩ := hX; have i0 := hI.1
  obtain ⟨p, Q, hC, hp, hA⟩ := hR
  obtain ⟨s, ⟨p2, Q2, hC2, hp2, hA2⟩, hIs, hss⟩ := id hsv
  refine zC_of (ls := [some (.ref x)]) hl (by decide +kernel) rfl (Nat.le_of_ble_eq_true rfl) rfl ?_
  refine zs_aload_n (pc := 0) dX_save_0 rfl ?_
  refine zs_get (pc := 1) dX_save_1 fX_16 (by first | exact hx | exact hx7 | exact zu_s | exact hc7) (by rfl) ?_
  refine zs_aload_n (pc := 4) dX_save_4 rfl ?_
  refine zs_get (pc := 5) dX_save_5 fX_12 (by first | exact hx | exact hx7 | exact zu_s | exact hc7) (by rfl) ?_
  refine zcVQ_1 (pc := 8) (d2 := d - 1) (s_C_copyFrom hl (by omega) hC2 hC hp2 hp hI.1 (by omega)) dX_save_8 kX_378 mdC_copyFrom miC_copyFrom mvC_copyFrom rfl (by exact hC2.1) rfl (Nat.le_of_ble_eq_true rfl) (by omega) (by omega) (by omega) (fun v h7 n1 hq => ?_) (fun E h1 n1 hq => absurd hq.1 (by intro q; cases q))
  obtain ⟨hv9, rfl, hf9, Q', hC', he⟩ := hq
  obtain rfl := Sum.inl.inj hv9
  have hx7 : h7 x = some (zXo x st sv.isSome er fl) := by rw [hf9 _ (by omega)]; exact hx
  have hkz : ∀ q, q ≠ x → ¬ (x + 43 ≤ q ∧ q < x + 85) → zu h7 x (zXo x st true er fl) q = h q := fun q q0 q1 => by rw [zu_n q0]; exact hf9 q (by omega)
  have hR7 := CR.cp hp2 hA hI hC' he
  have hc7 : zu h7 x (zXo x st true er fl) (x + 43) = some (zCo (zFg g) (x + 43 + 1)) := by rw [zu_n (by omega)]; exact hC'.1
  refine zs_aload_n (pc := 11) dX_save_11 rfl ?_
  refine zs_iconst (pc := 12) dX_save_12 zi_1 ?_
  refine zs_put (pc := 13) (fs2 := [_, _, _, _, _, _, _, _, _, _, _, _]) dX_save_13 fX_65 (by first | exact hx | exact hx7 | exact zu_s | exact hc7) (by rfl) (by rfl) (by exact Nat.le_of_ble_eq_true rfl) (by rfl) ?_
  have e : (.inr (7, [.ref (x + 1), .ref (x + 43), .ref (x + 85), .ref (x + 465), .ref (x + 468), .ref (x + 471), .ref (x + 476), .ref (x + 479), .int (nI st), .int (nI 1), .int (zer er), .int (zer fl)]) : zE) = zXo x st true er fl := rfl
  rw [e]
  refine zs_aload_n (pc := 16) dX_save_16 rfl ?_
  refine zs_get (pc := 17) dX_save_17 fX_16 (by first | exact hx | exact hx7 | exact zu_s | exact hc7) (by rfl) ?_
  refine zs_get (pc := 20) dX_save_20 fX_115 (by first | exact hx | exact hx7 | exact zu_s | exact hc7) (by rfl) ?_
  exact zs_iret (pc := 23) dX_save_23 rfl rfl (by omega) (by omega) (⟨zOut.y, fun q hq => hkz q (by omega) (by omega), ⟨st, hst, zu_s, htr.sm (fun q q1 q2 => hkz q (by omega) (by omega))⟩, CR.sm ⟨p, Q, hC, hp, hA⟩ (fun q q1 q2 => hkz q (by omega) (by omega)), hI, ⟨g, hR7.sm (fun q q1 q2 => zu_n (by omega)), hI, fun s2 e2 => Option.some.inj e2⟩, hH.sm (fun q q1 q2 => hkz q (by omega) (by omega)), hrk.sm (fun q q1 q2 => hkz q (by omega) (by omega)), hpg.sm (fun q q1 q2 => hkz q (by omega) (by omega)), hn60, hTc, hL.sm (fun q q1 q2 => hkz q (by omega) (by omega)), hag.sm (fun q q1 q2 => hkz q (by omega) (by omega))⟩)
def aRest (sv : Option (Nat → Nat)) : Nat × Int32 := match sv with
  | none => (1, -1)
  | some s => (0, nI (s 0))
theorem s_X_restore {Γ : zG} {l : Launch} (hl : l.stackTraces = false) {d : Nat} (hd : 4 ≤ d) {h : zH} {n : Nat} {B x c np : Nat} {g T : Nat → Nat} {P : Nat → Nat → Nat} {sv : Option (Nat → Nat)} {er fl : Option Nat} {L : List Nat} (hX : XR B h x g P c sv er fl T np L) (hB : B < 2 ^ 20) : zC Γ l d mX_restore [.ref x] h n 1 6 (zXq x h n ["", sIS] (aRest sv) (fun h1 => XR B h1 x (sv.getD g) P (if sv.isSome = true then 0 else c) sv er fl T np L)) := by
  have hX9 := hX; obtain ⟨⟨st, hst, hx, htr⟩, hR, hI, hsv, hH, hrk, hpg, hn60, hTc, hL, hag⟩ := hX; have i0 := hI.1
  obtain ⟨p, Q, hC, hp, hA⟩ := hR
  obtain ⟨s, ⟨p2, Q2, hC2, hp2, hA2⟩, hIs, hss⟩ := id hsv
  refine zC_of (ls := [some (.ref x)]) hl (by decide +kernel) rfl (Nat.le_of_ble_eq_true rfl) rfl ?_
  cases sv with
  | none =>
    refine zs_aload_n (pc := 0) dX_restore_0 rfl ?_
    refine zs_get (pc := 1) dX_restore_1 fX_65 (by first | exact hx | exact hx8 | exact zu_s | exact hc8) (by rfl) ?_
    refine zs_if_ne (pc := 4) 18 dX_restore_4 rfl (fun h9 => absurd h9 (fun q => q rfl)) (fun _ => ?_)
    exact zs_throwW (pc := 7) (text := "no saved copy") thIS (by decide) rfl dX_restore_7 dX_restore_10 dX_restore_11 dX_restore_14 dX_restore_17 (Nat.le_of_ble_eq_true rfl) (by omega) (by omega) (fun n2 hn2 => ⟨zOut.n rfl hn2, zfr.rf, hX9⟩)
  | some s2 =>
    obtain rfl := hss s2 rfl
    refine zs_aload_n (pc := 0) dX_restore_0 rfl ?_
    refine zs_get (pc := 1) dX_restore_1 fX_65 (by first | exact hx | exact hx8 | exact zu_s | exact hc8) (by rfl) ?_
    refine zs_if_ne (pc := 4) 18 dX_restore_4 rfl (fun _ => ?_) (fun h9 => absurd h9 (by show ¬ nI 1 = 0; decide))
    refine zs_aload_n (pc := 18) dX_restore_18 rfl ?_
    refine zs_get (pc := 19) dX_restore_19 fX_12 (by first | exact hx | exact hx8 | exact zu_s | exact hc8) (by rfl) ?_
    refine zs_aload_n (pc := 22) dX_restore_22 rfl ?_
    refine zs_get (pc := 23) dX_restore_23 fX_16 (by first | exact hx | exact hx8 | exact zu_s | exact hc8) (by rfl) ?_
    refine zcVQ_1 (pc := 26) (d2 := d - 1) (s_C_copyFrom hl (by omega) hC hC2 hp hp2 hIs.1 (by omega)) dX_restore_26 kX_378 mdC_copyFrom miC_copyFrom mvC_copyFrom rfl (by first | exact hC.1 | exact hh8) rfl (Nat.le_of_ble_eq_true rfl) (by omega) (by omega) (by omega) (fun v h7 n1 hq => ?_) (fun E h1 n1 hq => absurd hq.1 (by intro q; cases q))
    obtain ⟨hv9, rfl, hf9, Q', hC', he⟩ := hq
    obtain rfl := Sum.inl.inj hv9
    have hx7 : h7 x = some (zXo x st true er fl) := by rw [hf9 _ (by omega)]; exact hx
    have hf7 := hf9
    have hR7 := CR.cp hp hA2 hIs hC' he
    have hH7 := hH.fr hf9 (by omega)
    obtain ⟨M8, m8, G8, b1, b2, hh8, b4, b5, b6, b7⟩ := id hH7
    have hx8 := hx7
    refine zs_aload_n (pc := 29) dX_restore_29 rfl ?_
    refine zs_get (pc := 30) dX_restore_30 fX_22 (by first | exact hx | exact hx8 | exact zu_s | exact hc8) (by rfl) ?_
    refine zcVQ_0 (pc := 33) (d2 := d - 1) (s_H_forget hl hH7) dX_restore_33 kX_382 mdH_forget miH_forget mvH_forget rfl (by first | exact hC.1 | exact hh8) rfl (Nat.le_of_ble_eq_true rfl) (by omega) (by omega) (by omega) (fun v h8 n1 hq => ?_) (fun E h1 n1 hq => absurd hq.1 (by intro q; cases q))
    obtain ⟨hv9, rfl, hf9, hH8⟩ := hq
    obtain rfl := Sum.inl.inj hv9
    have hx8 : h8 x = some (zXo x st true er fl) := by rw [hf9 _ (by omega)]; exact hx7
    have hkz : ∀ q, q ≠ x → ¬ (x + 1 ≤ q ∧ q < x + 43) → ¬ (x + 85 ≤ q ∧ q < x + 465) → zu h8 x (zXo x 1 true er fl) q = h q := fun q q0 q1 q2 => by rw [zu_n q0, hf9 q (by omega)]; exact hf7 q (by omega)
    have hR8 := (hR7.fr hf9 (by omega)).sm (h1 := zu h8 x (zXo x 1 true er fl)) (fun q q1 q2 => zu_n (by omega))
    obtain ⟨p9, Q9, hC9, hp9, hA9⟩ := id hR8
    have hc8 : zu h8 x (zXo x 1 true er fl) (x + 1) = some (zCo (zFg s) (x + 1 + 1)) := hC9.1
    refine zs_aload_n (pc := 36) dX_restore_36 rfl ?_
    refine zs_iconst (pc := 37) dX_restore_37 zi_1 ?_
    refine zs_put (pc := 38) (fs2 := [_, _, _, _, _, _, _, _, _, _, _, _]) dX_restore_38 fX_61 (by first | exact hx | exact hx8 | exact zu_s | exact hc8) (by rfl) (by rfl) (by exact Nat.le_of_ble_eq_true rfl) (by rfl) ?_
    have e : (.inr (7, [.ref (x + 1), .ref (x + 43), .ref (x + 85), .ref (x + 465), .ref (x + 468), .ref (x + 471), .ref (x + 476), .ref (x + 479), .int (nI 1), .int (nI (zb true)), .int (zer er), .int (zer fl)]) : zE) = zXo x 1 true er fl := rfl
    rw [e]
    refine zs_aload_n (pc := 41) dX_restore_41 rfl ?_
    refine zs_get (pc := 42) dX_restore_42 fX_12 (by first | exact hx | exact hx8 | exact zu_s | exact hc8) (by rfl) ?_
    refine zs_get (pc := 45) dX_restore_45 fX_115 (by first | exact hx | exact hx8 | exact zu_s | exact hc8) (by rfl) ?_
    exact zs_iret (pc := 48) dX_restore_48 rfl rfl (by omega) (by omega) (⟨zOut.y, fun q hq => hkz q (by omega) (by omega) (by omega), ⟨1, by decide, zu_s, (htr.old (g2 := s)).sm (fun q q1 q2 => hkz q (by omega) (by omega) (by omega))⟩, hR8, hIs, hsv.sm (fun q q1 q2 => hkz q (by omega) (by omega) (by omega)), hH8.sm (fun q q1 q2 => zu_n (by omega)), hrk.sm (fun q q1 q2 => hkz q (by omega) (by omega) (by omega)), hpg.sm (fun q q1 q2 => hkz q (by omega) (by omega) (by omega)), hn60, hTc, hL.sm (fun q q1 q2 => hkz q (by omega) (by omega) (by omega)), hag.sm (fun q q1 q2 => hkz q (by omega) (by omega) (by omega))⟩)

