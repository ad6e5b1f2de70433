/-! the model's questions -/
theorem zIx_in {x : Int32} {m : Nat} : decide ((0 : Int) ≤ x.toInt ∧ x.toInt ≤ (m : Int) - 1) = zIx x m := decide_eq_decide.mpr (by omega)
theorem s_M_inX_y {Γ : zG} {l : Launch} (hl : l.stackTraces = false) {d : Nat} {h : zH} {n : Nat} {x : Int32} {m : Nat} {L H : Int64} (hL : L.toInt = 0) (hH : H.toInt = (m : Int) - 1) (hv : zIx x m = true) : zC Γ l d mM_in [.long x.toInt64, .long L, .long H] h n 0 0 (zR (some (.int 1)) h n) := by
  have h9 := s_M_inI (Γ := Γ) (d := d) (h := h) (n := n) (x := x) hl hL hH
  rw [zIx_in, hv] at h9
  exact h9
theorem s_M_inX_n {Γ : zG} {l : Launch} (hl : l.stackTraces = false) {d : Nat} {h : zH} {n : Nat} {x : Int32} {m : Nat} {L H : Int64} (hL : L.toInt = 0) (hH : H.toInt = (m : Int) - 1) (hv : zIx x m = false) : zC Γ l d mM_in [.long x.toInt64, .long L, .long H] h n 0 0 (zR (some (.int 0)) h n) := by
  have h9 := s_M_inI (Γ := Γ) (d := d) (h := h) (n := n) (x := x) hl hL hH
  rw [zIx_in, hv] at h9
  exact h9
theorem nI_m64 {m : Nat} (h : m < 2 ^ 30) : ((nI m - nI 1).toInt64).toInt = (m : Int) - 1 := by rw [Int32.toInt_toInt64, pk_sub_toInt h (by decide)]; rfl
theorem nI_kn {k : Nat} (h : k < 2 ^ 31) : ¬ nI k = -1 := fun q => by
  have h9 := nI_pos (n := k) h
  rw [q] at h9
  exact h9 (by decide)
theorem s_M_total {Γ : zG} {l : Launch} (hl : l.stackTraces = false) {d : Nat} {h : zH} {n a : Nat} {g : Nat → Nat} {s3 s5 s6 s7 s8 s10 s12 s16 s17 s18 s19 s20 : Int32} {k : Nat} (hk : k < 246) : zC Γ l d mM_total [.ref a, .int (nI k)] (z2 h a (zAr 0 246 (g)) (zMo a s3 s5 s6 s7 s8 s10 s12 s16 s17 s18 s19 s20)) n 0 0 (zR (some (.int (nI (g k)))) (z2 h a (zAr 0 246 (g)) (zMo a s3 s5 s6 s7 (nI 0) s10 s12 s16 s17 s18 s19 s20)) n) := by
  refine zC_of (ls := [some (.ref a), some (.int (nI k))]) hl (by decide +kernel) rfl (Nat.le_of_ble_eq_true rfl) rfl ?_
  refine zs_aload_n (pc := 0) dM_total_0 rfl ?_
  refine zs_iconst (pc := 1) dM_total_1 zi_0 ?_
  refine zs_put (pc := 2) (fs2 := [_, _, _, _, _, _, _, _, _, _, _, _, _, _, _, _, _, _, _, _, _]) dM_total_2 fM_45 (by first | exact z2_a | exact z2_1) (by rfl) (by rfl) (by exact Nat.le_of_ble_eq_true rfl) (by rfl) ?_
  rw [z2_O]
  refine zs_aload_n (pc := 5) dM_total_5 rfl ?_
  refine zs_get (pc := 6) dM_total_6 fM_9 (by first | exact z2_a | exact z2_1) (by rfl) ?_
  refine zs_iload_n (pc := 9) dM_total_9 rfl ?_
  refine zn_iald (pc := 10) dM_total_10 (by first | exact z2_a | exact z2_1) (by omega) (by first | decide | assumption) ?_
  exact zs_iret (pc := 11) dM_total_11 rfl rfl (by omega) (by omega) (⟨rfl, rfl, rfl⟩)

theorem s_M_entryCount {Γ : zG} {l : Launch} (hl : l.stackTraces = false) {d : Nat} (hd : 1 ≤ d) {h : zH} {n a : Nat} {g : Nat → Nat} {s3 s5 s6 s7 s8 s10 s12 s16 s17 s18 s19 s20 : Int32} : zC Γ l d mM_entryCount [.ref a] (z2 h a (zAr 0 246 (g)) (zMo a s3 s5 s6 s7 s8 s10 s12 s16 s17 s18 s19 s20)) n 0 0 (zR (some (.int (nI (g 0)))) (z2 h a (zAr 0 246 (g)) (zMo a s3 s5 s6 s7 (nI 0) s10 s12 s16 s17 s18 s19 s20)) n) := by
  refine zC_of (ls := [some (.ref a)]) hl (by decide +kernel) rfl (Nat.le_of_ble_eq_true rfl) rfl ?_
  refine zs_aload_n (pc := 0) dM_entryCount_0 rfl ?_
  refine zs_iconst (pc := 1) dM_entryCount_1 zi_0 ?_
  refine zcV1_1 (pc := 2) (d2 := d - 1) (s_M_total hl (by decide)) dM_entryCount_2 kM_154 mdM_total miM_total mvM_total rfl (by exact z2_a) rfl (Nat.le_of_ble_eq_true rfl) (by omega) (by omega) (by omega) ?_
  exact zs_iret (pc := 5) dM_entryCount_5 rfl rfl (by omega) (by omega) (⟨rfl, rfl, rfl⟩)
theorem s_M_segmentCount {Γ : zG} {l : Launch} (hl : l.stackTraces = false) {d : Nat} (hd : 1 ≤ d) {h : zH} {n a : Nat} {g : Nat → Nat} {s3 s5 s6 s7 s8 s10 s12 s16 s17 s18 s19 s20 : Int32} : zC Γ l d mM_segmentCount [.ref a] (z2 h a (zAr 0 246 (g)) (zMo a s3 s5 s6 s7 s8 s10 s12 s16 s17 s18 s19 s20)) n 0 0 (zR (some (.int (nI (g 2)))) (z2 h a (zAr 0 246 (g)) (zMo a s3 s5 s6 s7 (nI 0) s10 s12 s16 s17 s18 s19 s20)) n) := by
  refine zC_of (ls := [some (.ref a)]) hl (by decide +kernel) rfl (Nat.le_of_ble_eq_true rfl) rfl ?_
  refine zs_aload_n (pc := 0) dM_segmentCount_0 rfl ?_
  refine zs_iconst (pc := 1) dM_segmentCount_1 zi_2 ?_
  refine zcV1_1 (pc := 2) (d2 := d - 1) (s_M_total hl (by decide)) dM_segmentCount_2 kM_154 mdM_total miM_total mvM_total rfl (by exact z2_a) rfl (Nat.le_of_ble_eq_true rfl) (by omega) (by omega) (by omega) ?_
  exact zs_iret (pc := 5) dM_segmentCount_5 rfl rfl (by omega) (by omega) (⟨rfl, rfl, rfl⟩)
theorem s_M_addedTotal {Γ : zG} {l : Launch} (hl : l.stackTraces = false) {d : Nat} (hd : 1 ≤ d) {h : zH} {n a : Nat} {g : Nat → Nat} {s3 s5 s6 s7 s8 s10 s12 s16 s17 s18 s19 s20 : Int32} : zC Γ l d mM_addedTotal [.ref a] (z2 h a (zAr 0 246 (g)) (zMo a s3 s5 s6 s7 s8 s10 s12 s16 s17 s18 s19 s20)) n 0 0 (zR (some (.int (nI (g 1)))) (z2 h a (zAr 0 246 (g)) (zMo a s3 s5 s6 s7 (nI 0) s10 s12 s16 s17 s18 s19 s20)) n) := by
  refine zC_of (ls := [some (.ref a)]) hl (by decide +kernel) rfl (Nat.le_of_ble_eq_true rfl) rfl ?_
  refine zs_aload_n (pc := 0) dM_addedTotal_0 rfl ?_
  refine zs_iconst (pc := 1) dM_addedTotal_1 zi_1 ?_
  refine zcV1_1 (pc := 2) (d2 := d - 1) (s_M_total hl (by decide)) dM_addedTotal_2 kM_154 mdM_total miM_total mvM_total rfl (by exact z2_a) rfl (Nat.le_of_ble_eq_true rfl) (by omega) (by omega) (by omega) ?_
  exact zs_iret (pc := 5) dM_addedTotal_5 rfl rfl (by omega) (by omega) (⟨rfl, rfl, rfl⟩)
theorem s_M_removedTotal {Γ : zG} {l : Launch} (hl : l.stackTraces = false) {d : Nat} (hd : 1 ≤ d) {h : zH} {n a : Nat} {g : Nat → Nat} {s3 s5 s6 s7 s8 s10 s12 s16 s17 s18 s19 s20 : Int32} : zC Γ l d mM_removedTotal [.ref a] (z2 h a (zAr 0 246 (g)) (zMo a s3 s5 s6 s7 s8 s10 s12 s16 s17 s18 s19 s20)) n 0 0 (zR (some (.int (nI (g 3)))) (z2 h a (zAr 0 246 (g)) (zMo a s3 s5 s6 s7 (nI 0) s10 s12 s16 s17 s18 s19 s20)) n) := by
  refine zC_of (ls := [some (.ref a)]) hl (by decide +kernel) rfl (Nat.le_of_ble_eq_true rfl) rfl ?_
  refine zs_aload_n (pc := 0) dM_removedTotal_0 rfl ?_
  refine zs_iconst (pc := 1) dM_removedTotal_1 zi_3 ?_
  refine zcV1_1 (pc := 2) (d2 := d - 1) (s_M_total hl (by decide)) dM_removedTotal_2 kM_154 mdM_total miM_total mvM_total rfl (by exact z2_a) rfl (Nat.le_of_ble_eq_true rfl) (by omega) (by omega) (by omega) ?_
  exact zs_iret (pc := 5) dM_removedTotal_5 rfl rfl (by omega) (by omega) (⟨rfl, rfl, rfl⟩)
theorem s_M_mergedTotal {Γ : zG} {l : Launch} (hl : l.stackTraces = false) {d : Nat} (hd : 1 ≤ d) {h : zH} {n a : Nat} {g : Nat → Nat} {s3 s5 s6 s7 s8 s10 s12 s16 s17 s18 s19 s20 : Int32} : zC Γ l d mM_mergedTotal [.ref a] (z2 h a (zAr 0 246 (g)) (zMo a s3 s5 s6 s7 s8 s10 s12 s16 s17 s18 s19 s20)) n 0 0 (zR (some (.int (nI (g 4)))) (z2 h a (zAr 0 246 (g)) (zMo a s3 s5 s6 s7 (nI 0) s10 s12 s16 s17 s18 s19 s20)) n) := by
  refine zC_of (ls := [some (.ref a)]) hl (by decide +kernel) rfl (Nat.le_of_ble_eq_true rfl) rfl ?_
  refine zs_aload_n (pc := 0) dM_mergedTotal_0 rfl ?_
  refine zs_iconst (pc := 1) dM_mergedTotal_1 zi_4 ?_
  refine zcV1_1 (pc := 2) (d2 := d - 1) (s_M_total hl (by decide)) dM_mergedTotal_2 kM_154 mdM_total miM_total mvM_total rfl (by exact z2_a) rfl (Nat.le_of_ble_eq_true rfl) (by omega) (by omega) (by omega) ?_
  exact zs_iret (pc := 5) dM_mergedTotal_5 rfl rfl (by omega) (by omega) (⟨rfl, rfl, rfl⟩)
theorem s_M_fadedTotal {Γ : zG} {l : Launch} (hl : l.stackTraces = false) {d : Nat} (hd : 1 ≤ d) {h : zH} {n a : Nat} {g : Nat → Nat} {s3 s5 s6 s7 s8 s10 s12 s16 s17 s18 s19 s20 : Int32} : zC Γ l d mM_fadedTotal [.ref a] (z2 h a (zAr 0 246 (g)) (zMo a s3 s5 s6 s7 s8 s10 s12 s16 s17 s18 s19 s20)) n 0 0 (zR (some (.int (nI (g 5)))) (z2 h a (zAr 0 246 (g)) (zMo a s3 s5 s6 s7 (nI 0) s10 s12 s16 s17 s18 s19 s20)) n) := by
  refine zC_of (ls := [some (.ref a)]) hl (by decide +kernel) rfl (Nat.le_of_ble_eq_true rfl) rfl ?_
  refine zs_aload_n (pc := 0) dM_fadedTotal_0 rfl ?_
  refine zs_iconst (pc := 1) dM_fadedTotal_1 zi_5 ?_
  refine zcV1_1 (pc := 2) (d2 := d - 1) (s_M_total hl (by decide)) dM_fadedTotal_2 kM_154 mdM_total miM_total mvM_total rfl (by exact z2_a) rfl (Nat.le_of_ble_eq_true rfl) (by omega) (by omega) (by omega) ?_
  exact zs_iret (pc := 5) dM_fadedTotal_5 rfl rfl (by omega) (by omega) (⟨rfl, rfl, rfl⟩)
theorem s_M_idAt {Γ : zG} {l : Launch} (hl : l.stackTraces = false) {d : Nat} (hd : 1 ≤ d) {h : zH} {n a : Nat} {g : Nat → Nat} {s3 s5 s6 s7 s8 s10 s12 s16 s17 s18 s19 s20 : Int32} {B : Nat} (hI : IG B g) (y : Int32) : zC Γ l d mM_idAt [.ref a, .int y] (z2 h a (zAr 0 246 (g)) (zMo a s3 s5 s6 s7 s8 s10 s12 s16 s17 s18 s19 s20)) n 0 0 (zR (some (.int (aIdAt g y).2)) (z2 h a (zAr 0 246 (g)) (zMo a s3 s5 s6 s7 (nI (aIdAt g y).1) s10 s12 s16 s17 s18 s19 s20)) n) := by
  have i0 := hI.1
  unfold aIdAt
  refine zC_of (ls := [some (.ref a), some (.int y)]) hl (by decide +kernel) rfl (Nat.le_of_ble_eq_true rfl) rfl ?_
  cases hv : zIx y (g 0) with
  | true =>
    rw [if_pos rfl]
    have hv9 := hv
    obtain ⟨v1, v2⟩ := zIx_y hv
    generalize y.toInt.toNat = k at v1 v2 ⊢
    subst v2
    refine zs_aload_n (pc := 0) dM_idAt_0 rfl ?_
    refine zs_iconst (pc := 1) dM_idAt_1 zi_0 ?_
    refine zs_put (pc := 2) (fs2 := [_, _, _, _, _, _, _, _, _, _, _, _, _, _, _, _, _, _, _, _, _]) dM_idAt_2 fM_45 (by first | exact z2_a | exact z2_1) (by rfl) (by rfl) (by exact Nat.le_of_ble_eq_true rfl) (by rfl) ?_
    rw [z2_O]
    refine zs_iload_n (pc := 5) dM_idAt_5 rfl ?_
    refine zs_i2l (pc := 6) dM_idAt_6 ?_
    refine zs_lconst (pc := 7) (v := 0) dM_idAt_7 (by decide) ?_
    refine zs_aload_n (pc := 8) dM_idAt_8 rfl ?_
    refine zs_get (pc := 9) dM_idAt_9 fM_9 (by first | exact z2_a | exact z2_1) (by rfl) ?_
    refine zs_iconst (pc := 12) dM_idAt_12 zi_0 ?_
    refine zn_iald (pc := 13) dM_idAt_13 (by first | exact z2_a | exact z2_1) (by omega) (by first | decide | assumption) ?_
    refine zs_iconst (pc := 14) dM_idAt_14 zi_1 ?_
    refine zs_isub (pc := 15) dM_idAt_15 ?_
    refine zs_i2l (pc := 16) dM_idAt_16 ?_
    refine zcS1_3 (pc := 17) (d2 := d - 1) (s_M_inX_y hl (by decide) (nI_m64 (by omega)) hv9) dM_idAt_17 kM_55 mdM_in msM_in rfl (Nat.le_of_ble_eq_true rfl) (by omega) (by omega) (by omega) ?_
    refine zs_if_eq (pc := 20) 35 dM_idAt_20 rfl (fun h9 => absurd h9 (by decide)) (fun _ => ?_)
    refine zs_aload_n (pc := 23) dM_idAt_23 rfl ?_
    refine zs_get (pc := 24) dM_idAt_24 fM_9 (by first | exact z2_a | exact z2_1) (by rfl) ?_
    refine zs_iload_n (pc := 27) dM_idAt_27 rfl ?_
    refine zcS1_1 (pc := 28) (d2 := d - 1) (s_M_entryAt hl) dM_idAt_28 kM_51 mdM_entryAt msM_entryAt rfl (Nat.le_of_ble_eq_true rfl) (by omega) (by omega) (by omega) ?_
    refine zn_iald (pc := 31) dM_idAt_31 (by first | exact z2_a | exact z2_1) (by omega) (by first | decide | assumption) ?_
    refine zs_goto (pc := 32) 40 dM_idAt_32 rfl ?_
    exact zs_iret (pc := 40) dM_idAt_40 rfl rfl (by omega) (by omega) (⟨rfl, rfl, rfl⟩)
  | false =>
    rw [if_neg (by decide)]
    refine zs_aload_n (pc := 0) dM_idAt_0 rfl ?_
    refine zs_iconst (pc := 1) dM_idAt_1 zi_0 ?_
    refine zs_put (pc := 2) (fs2 := [_, _, _, _, _, _, _, _, _, _, _, _, _, _, _, _, _, _, _, _, _]) dM_idAt_2 fM_45 (by first | exact z2_a | exact z2_1) (by rfl) (by rfl) (by exact Nat.le_of_ble_eq_true rfl) (by rfl) ?_
    rw [z2_O]
    refine zs_iload_n (pc := 5) dM_idAt_5 rfl ?_
    refine zs_i2l (pc := 6) dM_idAt_6 ?_
    refine zs_lconst (pc := 7) (v := 0) dM_idAt_7 (by decide) ?_
    refine zs_aload_n (pc := 8) dM_idAt_8 rfl ?_
    refine zs_get (pc := 9) dM_idAt_9 fM_9 (by first | exact z2_a | exact z2_1) (by rfl) ?_
    refine zs_iconst (pc := 12) dM_idAt_12 zi_0 ?_
    refine zn_iald (pc := 13) dM_idAt_13 (by first | exact z2_a | exact z2_1) (by omega) (by first | decide | assumption) ?_
    refine zs_iconst (pc := 14) dM_idAt_14 zi_1 ?_
    refine zs_isub (pc := 15) dM_idAt_15 ?_
    refine zs_i2l (pc := 16) dM_idAt_16 ?_
    refine zcS1_3 (pc := 17) (d2 := d - 1) (s_M_inX_n hl (by decide) (nI_m64 (by omega)) hv) dM_idAt_17 kM_55 mdM_in msM_in rfl (Nat.le_of_ble_eq_true rfl) (by omega) (by omega) (by omega) ?_
    refine zs_if_eq (pc := 20) 35 dM_idAt_20 rfl (fun _ => ?_) (fun h9 => absurd h9 (by decide))
    refine zs_aload_n (pc := 35) dM_idAt_35 rfl ?_
    refine zs_iconst (pc := 36) dM_idAt_36 zi_1 ?_
    refine zcV1_1 (pc := 37) (d2 := d - 1) (s_M_throwing hl) dM_idAt_37 kM_90 mdM_throwing miM_throwing mvM_throwing rfl (by exact z2_a) rfl (Nat.le_of_ble_eq_true rfl) (by omega) (by omega) (by omega) ?_
    exact zs_iret (pc := 40) dM_idAt_40 rfl rfl (by omega) (by omega) (⟨rfl, rfl, rfl⟩)
theorem s_M_ofEntry {Γ : zG} {l : Launch} (hl : l.stackTraces = false) {d : Nat} (hd : 2 ≤ d) {h : zH} {n a : Nat} {g : Nat → Nat} {s3 s5 s6 s7 s8 s10 s12 s16 s17 s18 s19 s20 : Int32} {B : Nat} (hI : IG B g) (y : Int32) {i : Nat} (hi : i < 12) : zC Γ l d mM_ofEntry [.ref a, .int y, .int (nI i)] (z2 h a (zAr 0 246 (g)) (zMo a s3 s5 s6 s7 s8 s10 s12 s16 s17 s18 s19 s20)) n 0 0 (zR (some (.int (aOf g y i).2)) (z2 h a (zAr 0 246 (g)) (zMo a s3 s5 s6 s7 (nI (aOf g y i).1) s10 s12 s16 s17 s18 s19 s20)) n) := by
  have i0 := hI.1
  unfold aOf
  refine zC_of (ls := [some (.ref a), some (.int y), some (.int (nI i))]) hl (by decide +kernel) rfl (Nat.le_of_ble_eq_true rfl) rfl ?_
  cases hH : zHas g y with
  | true =>
    rw [if_pos rfl]
    obtain ⟨f1, f2, f3⟩ := zHas_y hH
    generalize zAt g y = k at f1 f2 f3 ⊢
    refine zs_aload_n (pc := 0) dM_ofEntry_0 rfl ?_
    refine zs_iconst (pc := 1) dM_ofEntry_1 zi_0 ?_
    refine zs_put (pc := 2) (fs2 := [_, _, _, _, _, _, _, _, _, _, _, _, _, _, _, _, _, _, _, _, _]) dM_ofEntry_2 fM_45 (by first | exact z2_a | exact z2_1) (by rfl) (by rfl) (by exact Nat.le_of_ble_eq_true rfl) (by rfl) ?_
    rw [z2_O]
    refine zs_aload_n (pc := 5) dM_ofEntry_5 rfl ?_
    refine zs_iload_n (pc := 6) dM_ofEntry_6 rfl ?_
    refine zcV1_1 (pc := 7) (d2 := d - 1) (s_M_find_y hl (by omega) i0 f1 f2 f3) dM_ofEntry_7 kM_102 mdM_find miM_find mvM_find rfl (by exact z2_a) rfl (Nat.le_of_ble_eq_true rfl) (by omega) (by omega) (by omega) ?_
    refine zs_iconst (pc := 10) dM_ofEntry_10 zi_m1 ?_
    refine zs_icmp_ne (pc := 11) 22 dM_ofEntry_11 rfl (fun _ => ?_) (fun h9 => absurd h9 (nI_kn (by omega)))
    refine zs_aload_n (pc := 22) dM_ofEntry_22 rfl ?_
    refine zs_get (pc := 23) dM_ofEntry_23 fM_9 (by first | exact z2_a | exact z2_1) (by rfl) ?_
    refine zs_aload_n (pc := 26) dM_ofEntry_26 rfl ?_
    refine zs_iload_n (pc := 27) dM_ofEntry_27 rfl ?_
    refine zcV1_1 (pc := 28) (d2 := d - 1) (s_M_find_y hl (by omega) i0 f1 f2 f3) dM_ofEntry_28 kM_102 mdM_find miM_find mvM_find rfl (by exact z2_a) rfl (Nat.le_of_ble_eq_true rfl) (by omega) (by omega) (by omega) ?_
    refine zcS1_1 (pc := 31) (d2 := d - 1) (s_M_entryAt hl) dM_ofEntry_31 kM_51 mdM_entryAt msM_entryAt rfl (Nat.le_of_ble_eq_true rfl) (by omega) (by omega) (by omega) ?_
    refine zs_iload_n (pc := 34) dM_ofEntry_34 rfl ?_
    refine zn_iadd (pc := 35) dM_ofEntry_35 ?_
    refine zn_iald (pc := 36) dM_ofEntry_36 (by first | exact z2_a | exact z2_1) (by omega) (by first | decide | assumption) ?_
    exact zs_iret (pc := 37) dM_ofEntry_37 rfl rfl (by omega) (by omega) (⟨rfl, rfl, rfl⟩)
  | false =>
    rw [if_neg (by decide)]
    refine zs_aload_n (pc := 0) dM_ofEntry_0 rfl ?_
    refine zs_iconst (pc := 1) dM_ofEntry_1 zi_0 ?_
    refine zs_put (pc := 2) (fs2 := [_, _, _, _, _, _, _, _, _, _, _, _, _, _, _, _, _, _, _, _, _]) dM_ofEntry_2 fM_45 (by first | exact z2_a | exact z2_1) (by rfl) (by rfl) (by exact Nat.le_of_ble_eq_true rfl) (by rfl) ?_
    rw [z2_O]
    refine zs_aload_n (pc := 5) dM_ofEntry_5 rfl ?_
    refine zs_iload_n (pc := 6) dM_ofEntry_6 rfl ?_
    refine zcV1_1 (pc := 7) (d2 := d - 1) (s_M_find_n hl (by omega) i0 hH) dM_ofEntry_7 kM_102 mdM_find miM_find mvM_find rfl (by exact z2_a) rfl (Nat.le_of_ble_eq_true rfl) (by omega) (by omega) (by omega) ?_
    refine zs_iconst (pc := 10) dM_ofEntry_10 zi_m1 ?_
    refine zs_icmp_ne (pc := 11) 22 dM_ofEntry_11 rfl (fun h9 => absurd h9 (fun q => q rfl)) (fun _ => ?_)
    refine zs_aload_n (pc := 14) dM_ofEntry_14 rfl ?_
    refine zs_iconst (pc := 15) dM_ofEntry_15 zi_1 ?_
    refine zcV1_1 (pc := 16) (d2 := d - 1) (s_M_throwing hl) dM_ofEntry_16 kM_90 mdM_throwing miM_throwing mvM_throwing rfl (by exact z2_a) rfl (Nat.le_of_ble_eq_true rfl) (by omega) (by omega) (by omega) ?_
    refine zs_goto (pc := 19) 37 dM_ofEntry_19 rfl ?_
    exact zs_iret (pc := 37) dM_ofEntry_37 rfl rfl (by omega) (by omega) (⟨rfl, rfl, rfl⟩)

theorem s_M_weightOf {Γ : zG} {l : Launch} (hl : l.stackTraces = false) {d : Nat} (hd : 3 ≤ d) {h : zH} {n a : Nat} {g : Nat → Nat} {s3 s5 s6 s7 s8 s10 s12 s16 s17 s18 s19 s20 : Int32} {B : Nat} (hI : IG B g) (y : Int32) : zC Γ l d mM_weightOf [.ref a, .int y] (z2 h a (zAr 0 246 (g)) (zMo a s3 s5 s6 s7 s8 s10 s12 s16 s17 s18 s19 s20)) n 0 0 (zR (some (.int (aOf g y 1).2)) (z2 h a (zAr 0 246 (g)) (zMo a s3 s5 s6 s7 (nI (aOf g y 1).1) s10 s12 s16 s17 s18 s19 s20)) n) := by
  refine zC_of (ls := [some (.ref a), some (.int y)]) hl (by decide +kernel) rfl (Nat.le_of_ble_eq_true rfl) rfl ?_
  refine zs_aload_n (pc := 0) dM_weightOf_0 rfl ?_
  refine zs_iload_n (pc := 1) dM_weightOf_1 rfl ?_
  refine zs_iconst (pc := 2) dM_weightOf_2 zi_1 ?_
  refine zcV1_2 (pc := 3) (d2 := d - 1) (s_M_ofEntry hl (by omega) hI y (i := 1) (by decide)) dM_weightOf_3 kM_157 mdM_ofEntry miM_ofEntry mvM_ofEntry rfl (by exact z2_a) rfl (Nat.le_of_ble_eq_true rfl) (by omega) (by omega) (by omega) ?_
  exact zs_iret (pc := 6) dM_weightOf_6 rfl rfl (by omega) (by omega) (⟨rfl, rfl, rfl⟩)
theorem s_M_ageOf {Γ : zG} {l : Launch} (hl : l.stackTraces = false) {d : Nat} (hd : 3 ≤ d) {h : zH} {n a : Nat} {g : Nat → Nat} {s3 s5 s6 s7 s8 s10 s12 s16 s17 s18 s19 s20 : Int32} {B : Nat} (hI : IG B g) (y : Int32) : zC Γ l d mM_ageOf [.ref a, .int y] (z2 h a (zAr 0 246 (g)) (zMo a s3 s5 s6 s7 s8 s10 s12 s16 s17 s18 s19 s20)) n 0 0 (zR (some (.int (aOf g y 2).2)) (z2 h a (zAr 0 246 (g)) (zMo a s3 s5 s6 s7 (nI (aOf g y 2).1) s10 s12 s16 s17 s18 s19 s20)) n) := by
  refine zC_of (ls := [some (.ref a), some (.int y)]) hl (by decide +kernel) rfl (Nat.le_of_ble_eq_true rfl) rfl ?_
  refine zs_aload_n (pc := 0) dM_ageOf_0 rfl ?_
  refine zs_iload_n (pc := 1) dM_ageOf_1 rfl ?_
  refine zs_iconst (pc := 2) dM_ageOf_2 zi_2 ?_
  refine zcV1_2 (pc := 3) (d2 := d - 1) (s_M_ofEntry hl (by omega) hI y (i := 2) (by decide)) dM_ageOf_3 kM_157 mdM_ofEntry miM_ofEntry mvM_ofEntry rfl (by exact z2_a) rfl (Nat.le_of_ble_eq_true rfl) (by omega) (by omega) (by omega) ?_
  exact zs_iret (pc := 6) dM_ageOf_6 rfl rfl (by omega) (by omega) (⟨rfl, rfl, rfl⟩)
theorem s_M_hitsOf {Γ : zG} {l : Launch} (hl : l.stackTraces = false) {d : Nat} (hd : 3 ≤ d) {h : zH} {n a : Nat} {g : Nat → Nat} {s3 s5 s6 s7 s8 s10 s12 s16 s17 s18 s19 s20 : Int32} {B : Nat} (hI : IG B g) (y : Int32) : zC Γ l d mM_hitsOf [.ref a, .int y] (z2 h a (zAr 0 246 (g)) (zMo a s3 s5 s6 s7 s8 s10 s12 s16 s17 s18 s19 s20)) n 0 0 (zR (some (.int (aOf g y 3).2)) (z2 h a (zAr 0 246 (g)) (zMo a s3 s5 s6 s7 (nI (aOf g y 3).1) s10 s12 s16 s17 s18 s19 s20)) n) := by
  refine zC_of (ls := [some (.ref a), some (.int y)]) hl (by decide +kernel) rfl (Nat.le_of_ble_eq_true rfl) rfl ?_
  refine zs_aload_n (pc := 0) dM_hitsOf_0 rfl ?_
  refine zs_iload_n (pc := 1) dM_hitsOf_1 rfl ?_
  refine zs_iconst (pc := 2) dM_hitsOf_2 zi_3 ?_
  refine zcV1_2 (pc := 3) (d2 := d - 1) (s_M_ofEntry hl (by omega) hI y (i := 3) (by decide)) dM_hitsOf_3 kM_157 mdM_ofEntry miM_ofEntry mvM_ofEntry rfl (by exact z2_a) rfl (Nat.le_of_ble_eq_true rfl) (by omega) (by omega) (by omega) ?_
  exact zs_iret (pc := 6) dM_hitsOf_6 rfl rfl (by omega) (by omega) (⟨rfl, rfl, rfl⟩)
theorem s_M_segmentOf {Γ : zG} {l : Launch} (hl : l.stackTraces = false) {d : Nat} (hd : 3 ≤ d) {h : zH} {n a : Nat} {g : Nat → Nat} {s3 s5 s6 s7 s8 s10 s12 s16 s17 s18 s19 s20 : Int32} {B : Nat} (hI : IG B g) (y : Int32) : zC Γ l d mM_segmentOf [.ref a, .int y] (z2 h a (zAr 0 246 (g)) (zMo a s3 s5 s6 s7 s8 s10 s12 s16 s17 s18 s19 s20)) n 0 0 (zR (some (.int (aOf g y 4).2)) (z2 h a (zAr 0 246 (g)) (zMo a s3 s5 s6 s7 (nI (aOf g y 4).1) s10 s12 s16 s17 s18 s19 s20)) n) := by
  refine zC_of (ls := [some (.ref a), some (.int y)]) hl (by decide +kernel) rfl (Nat.le_of_ble_eq_true rfl) rfl ?_
  refine zs_aload_n (pc := 0) dM_segmentOf_0 rfl ?_
  refine zs_iload_n (pc := 1) dM_segmentOf_1 rfl ?_
  refine zs_iconst (pc := 2) dM_segmentOf_2 zi_4 ?_
  refine zcV1_2 (pc := 3) (d2 := d - 1) (s_M_ofEntry hl (by omega) hI y (i := 4) (by decide)) dM_segmentOf_3 kM_157 mdM_ofEntry miM_ofEntry mvM_ofEntry rfl (by exact z2_a) rfl (Nat.le_of_ble_eq_true rfl) (by omega) (by omega) (by omega) ?_
  exact zs_iret (pc := 6) dM_segmentOf_6 rfl rfl (by omega) (by omega) (⟨rfl, rfl, rfl⟩)
theorem s_M_codeCount {Γ : zG} {l : Launch} (hl : l.stackTraces = false) {d : Nat} (hd : 3 ≤ d) {h : zH} {n a : Nat} {g : Nat → Nat} {s3 s5 s6 s7 s8 s10 s12 s16 s17 s18 s19 s20 : Int32} {B : Nat} (hI : IG B g) (y : Int32) : zC Γ l d mM_codeCount [.ref a, .int y] (z2 h a (zAr 0 246 (g)) (zMo a s3 s5 s6 s7 s8 s10 s12 s16 s17 s18 s19 s20)) n 0 0 (zR (some (.int (aOf g y 5).2)) (z2 h a (zAr 0 246 (g)) (zMo a s3 s5 s6 s7 (nI (aOf g y 5).1) s10 s12 s16 s17 s18 s19 s20)) n) := by
  refine zC_of (ls := [some (.ref a), some (.int y)]) hl (by decide +kernel) rfl (Nat.le_of_ble_eq_true rfl) rfl ?_
  refine zs_aload_n (pc := 0) dM_codeCount_0 rfl ?_
  refine zs_iload_n (pc := 1) dM_codeCount_1 rfl ?_
  refine zs_iconst (pc := 2) dM_codeCount_2 zi_5 ?_
  refine zcV1_2 (pc := 3) (d2 := d - 1) (s_M_ofEntry hl (by omega) hI y (i := 5) (by decide)) dM_codeCount_3 kM_157 mdM_ofEntry miM_ofEntry mvM_ofEntry rfl (by exact z2_a) rfl (Nat.le_of_ble_eq_true rfl) (by omega) (by omega) (by omega) ?_
  exact zs_iret (pc := 6) dM_codeCount_6 rfl rfl (by omega) (by omega) (⟨rfl, rfl, rfl⟩)
theorem s_M_lifetimeOf {Γ : zG} {l : Launch} (hl : l.stackTraces = false) {d : Nat} (hd : 2 ≤ d) {h : zH} {n a : Nat} {g : Nat → Nat} {s3 s5 s6 s7 s8 s10 s12 s16 s17 s18 s19 s20 : Int32} {B : Nat} (hI : IG B g) (hB : B < 2 ^ 20) (y : Int32) : zC Γ l d mM_lifetimeOf [.ref a, .int y] (z2 h a (zAr 0 246 (g)) (zMo a s3 s5 s6 s7 s8 s10 s12 s16 s17 s18 s19 s20)) n 0 0 (zR (some (.int (aLife g y).2)) (z2 h a (zAr 0 246 (g)) (zMo a s3 s5 s6 s7 (nI (aLife g y).1) s10 s12 s16 s17 s18 s19 s20)) n) := by
  have i0 := hI.1
  unfold aLife
  refine zC_of (ls := [some (.ref a), some (.int y)]) hl (by decide +kernel) rfl (Nat.le_of_ble_eq_true rfl) rfl ?_
  cases hH : zHas g y with
  | true =>
    rw [if_pos rfl]
    obtain ⟨f1, f2, f3⟩ := zHas_y hH
    generalize zAt g y = k at f1 f2 f3 ⊢
    obtain ⟨b0, b1, b2, b3, b4, b5, b6⟩ := hI.b hB f1
    refine zs_aload_n (pc := 0) dM_lifetimeOf_0 rfl ?_
    refine zs_iconst (pc := 1) dM_lifetimeOf_1 zi_0 ?_
    refine zs_put (pc := 2) (fs2 := [_, _, _, _, _, _, _, _, _, _, _, _, _, _, _, _, _, _, _, _, _]) dM_lifetimeOf_2 fM_45 (by first | exact z2_a | exact z2_1) (by rfl) (by rfl) (by exact Nat.le_of_ble_eq_true rfl) (by rfl) ?_
    rw [z2_O]
    refine zs_aload_n (pc := 5) dM_lifetimeOf_5 rfl ?_
    refine zs_iload_n (pc := 6) dM_lifetimeOf_6 rfl ?_
    refine zcV1_1 (pc := 7) (d2 := d - 1) (s_M_find_y hl (by omega) i0 f1 f2 f3) dM_lifetimeOf_7 kM_102 mdM_find miM_find mvM_find rfl (by exact z2_a) rfl (Nat.le_of_ble_eq_true rfl) (by omega) (by omega) (by omega) ?_
    refine zs_iconst (pc := 10) dM_lifetimeOf_10 zi_m1 ?_
    refine zs_icmp_ne (pc := 11) 22 dM_lifetimeOf_11 rfl (fun _ => ?_) (fun h9 => absurd h9 (nI_kn (by omega)))
    refine zs_aload_n (pc := 22) dM_lifetimeOf_22 rfl ?_
    refine zs_aload_n (pc := 23) dM_lifetimeOf_23 rfl ?_
    refine zs_iload_n (pc := 24) dM_lifetimeOf_24 rfl ?_
    refine zcV1_1 (pc := 25) (d2 := d - 1) (s_M_find_y hl (by omega) i0 f1 f2 f3) dM_lifetimeOf_25 kM_102 mdM_find miM_find mvM_find rfl (by exact z2_a) rfl (Nat.le_of_ble_eq_true rfl) (by omega) (by omega) (by omega) ?_
    refine zcV1_1 (pc := 28) (d2 := d - 1) (s_M_lifetime hl (by omega) (by omega) (by omega) b3) dM_lifetimeOf_28 kM_85 mdM_lifetime miM_lifetime mvM_lifetime rfl (by exact z2_a) rfl (Nat.le_of_ble_eq_true rfl) (by omega) (by omega) (by omega) ?_
    exact zs_iret (pc := 31) dM_lifetimeOf_31 rfl rfl (by omega) (by omega) (⟨rfl, rfl, rfl⟩)
  | false =>
    rw [if_neg (by decide)]
    refine zs_aload_n (pc := 0) dM_lifetimeOf_0 rfl ?_
    refine zs_iconst (pc := 1) dM_lifetimeOf_1 zi_0 ?_
    refine zs_put (pc := 2) (fs2 := [_, _, _, _, _, _, _, _, _, _, _, _, _, _, _, _, _, _, _, _, _]) dM_lifetimeOf_2 fM_45 (by first | exact z2_a | exact z2_1) (by rfl) (by rfl) (by exact Nat.le_of_ble_eq_true rfl) (by rfl) ?_
    rw [z2_O]
    refine zs_aload_n (pc := 5) dM_lifetimeOf_5 rfl ?_
    refine zs_iload_n (pc := 6) dM_lifetimeOf_6 rfl ?_
    refine zcV1_1 (pc := 7) (d2 := d - 1) (s_M_find_n hl (by omega) i0 hH) dM_lifetimeOf_7 kM_102 mdM_find miM_find mvM_find rfl (by exact z2_a) rfl (Nat.le_of_ble_eq_true rfl) (by omega) (by omega) (by omega) ?_
    refine zs_iconst (pc := 10) dM_lifetimeOf_10 zi_m1 ?_
    refine zs_icmp_ne (pc := 11) 22 dM_lifetimeOf_11 rfl (fun h9 => absurd h9 (fun q => q rfl)) (fun _ => ?_)
    refine zs_aload_n (pc := 14) dM_lifetimeOf_14 rfl ?_
    refine zs_iconst (pc := 15) dM_lifetimeOf_15 zi_1 ?_
    refine zcV1_1 (pc := 16) (d2 := d - 1) (s_M_throwing hl) dM_lifetimeOf_16 kM_90 mdM_throwing miM_throwing mvM_throwing rfl (by exact z2_a) rfl (Nat.le_of_ble_eq_true rfl) (by omega) (by omega) (by omega) ?_
    refine zs_goto (pc := 19) 31 dM_lifetimeOf_19 rfl ?_
    exact zs_iret (pc := 31) dM_lifetimeOf_31 rfl rfl (by omega) (by omega) (⟨rfl, rfl, rfl⟩)
theorem s_M_daysUntilFaded {Γ : zG} {l : Launch} (hl : l.stackTraces = false) {d : Nat} (hd : 3 ≤ d) {h : zH} {n a : Nat} {g : Nat → Nat} {s3 s5 s6 s7 s8 s10 s12 s16 s17 s18 s19 s20 : Int32} {B : Nat} (hI : IG B g) (hB : B < 2 ^ 20) (y : Int32) : zC Γ l d mM_daysUntilFaded [.ref a, .int y] (z2 h a (zAr 0 246 (g)) (zMo a s3 s5 s6 s7 s8 s10 s12 s16 s17 s18 s19 s20)) n 0 0 (zR (some (.int (aLeft g y).2)) (z2 h a (zAr 0 246 (g)) (zMo a s3 s5 s6 s7 (nI (aLeft g y).1) s10 s12 s16 s17 s18 s19 s20)) n) := by
  have i0 := hI.1
  unfold aLeft
  refine zC_of (ls := [some (.ref a), some (.int y)]) hl (by decide +kernel) rfl (Nat.le_of_ble_eq_true rfl) rfl ?_
  cases hH : zHas g y with
  | true =>
    rw [if_pos rfl]
    obtain ⟨f1, f2, f3⟩ := zHas_y hH
    generalize zAt g y = k at f1 f2 f3 ⊢
    obtain ⟨b0, b1, b2, b3, b4, b5, b6⟩ := hI.b hB f1
    have hw := (hI.w f1).2
    refine zs_aload_n (pc := 0) dM_daysUntilFaded_0 rfl ?_
    refine zs_iconst (pc := 1) dM_daysUntilFaded_1 zi_0 ?_
    refine zs_put (pc := 2) (fs2 := [_, _, _, _, _, _, _, _, _, _, _, _, _, _, _, _, _, _, _, _, _]) dM_daysUntilFaded_2 fM_45 (by first | exact z2_a | exact z2_1) (by rfl) (by rfl) (by exact Nat.le_of_ble_eq_true rfl) (by rfl) ?_
    rw [z2_O]
    refine zs_aload_n (pc := 5) dM_daysUntilFaded_5 rfl ?_
    refine zs_iload_n (pc := 6) dM_daysUntilFaded_6 rfl ?_
    refine zcV1_1 (pc := 7) (d2 := d - 1) (s_M_find_y hl (by omega) i0 f1 f2 f3) dM_daysUntilFaded_7 kM_102 mdM_find miM_find mvM_find rfl (by exact z2_a) rfl (Nat.le_of_ble_eq_true rfl) (by omega) (by omega) (by omega) ?_
    refine zs_iconst (pc := 10) dM_daysUntilFaded_10 zi_m1 ?_
    refine zs_icmp_ne (pc := 11) 22 dM_daysUntilFaded_11 rfl (fun _ => ?_) (fun h9 => absurd h9 (nI_kn (by omega)))
    refine zs_aload_n (pc := 22) dM_daysUntilFaded_22 rfl ?_
    refine zs_aload_n (pc := 23) dM_daysUntilFaded_23 rfl ?_
    refine zs_iload_n (pc := 24) dM_daysUntilFaded_24 rfl ?_
    refine zcV1_1 (pc := 25) (d2 := d - 1) (s_M_find_y hl (by omega) i0 f1 f2 f3) dM_daysUntilFaded_25 kM_102 mdM_find miM_find mvM_find rfl (by exact z2_a) rfl (Nat.le_of_ble_eq_true rfl) (by omega) (by omega) (by omega) ?_
    refine zcV1_1 (pc := 28) (d2 := d - 1) (s_M_daysLeft hl (by omega) (by omega) (by omega) b3 hw) dM_daysUntilFaded_28 kM_174 mdM_daysLeft miM_daysLeft mvM_daysLeft rfl (by exact z2_a) rfl (Nat.le_of_ble_eq_true rfl) (by omega) (by omega) (by omega) ?_
    exact zs_iret (pc := 31) dM_daysUntilFaded_31 rfl rfl (by omega) (by omega) (⟨rfl, rfl, rfl⟩)
  | false =>
    rw [if_neg (by decide)]
    refine zs_aload_n (pc := 0) dM_daysUntilFaded_0 rfl ?_
    refine zs_iconst (pc := 1) dM_daysUntilFaded_1 zi_0 ?_
    refine zs_put (pc := 2) (fs2 := [_, _, _, _, _, _, _, _, _, _, _, _, _, _, _, _, _, _, _, _, _]) dM_daysUntilFaded_2 fM_45 (by first | exact z2_a | exact z2_1) (by rfl) (by rfl) (by exact Nat.le_of_ble_eq_true rfl) (by rfl) ?_
    rw [z2_O]
    refine zs_aload_n (pc := 5) dM_daysUntilFaded_5 rfl ?_
    refine zs_iload_n (pc := 6) dM_daysUntilFaded_6 rfl ?_
    refine zcV1_1 (pc := 7) (d2 := d - 1) (s_M_find_n hl (by omega) i0 hH) dM_daysUntilFaded_7 kM_102 mdM_find miM_find mvM_find rfl (by exact z2_a) rfl (Nat.le_of_ble_eq_true rfl) (by omega) (by omega) (by omega) ?_
    refine zs_iconst (pc := 10) dM_daysUntilFaded_10 zi_m1 ?_
    refine zs_icmp_ne (pc := 11) 22 dM_daysUntilFaded_11 rfl (fun h9 => absurd h9 (fun q => q rfl)) (fun _ => ?_)
    refine zs_aload_n (pc := 14) dM_daysUntilFaded_14 rfl ?_
    refine zs_iconst (pc := 15) dM_daysUntilFaded_15 zi_1 ?_
    refine zcV1_1 (pc := 16) (d2 := d - 1) (s_M_throwing hl) dM_daysUntilFaded_16 kM_90 mdM_throwing miM_throwing mvM_throwing rfl (by exact z2_a) rfl (Nat.le_of_ble_eq_true rfl) (by omega) (by omega) (by omega) ?_
    refine zs_goto (pc := 19) 31 dM_daysUntilFaded_19 rfl ?_
    exact zs_iret (pc := 31) dM_daysUntilFaded_31 rfl rfl (by omega) (by omega) (⟨rfl, rfl, rfl⟩)
theorem s_M_daysUntilFadedByDays {Γ : zG} {l : Launch} (hl : l.stackTraces = false) {d : Nat} (hd : 4 ≤ d) {h : zH} {n a : Nat} {g : Nat → Nat} {s3 s5 s6 s7 s8 s10 s12 s16 s17 s18 s19 s20 : Int32} {B : Nat} (hI : IG B g) (hB : B < 2 ^ 20) (y : Int32) : zC Γ l d mM_daysUntilFadedByDays [.ref a, .int y] (z2 h a (zAr 0 246 (g)) (zMo a s3 s5 s6 s7 s8 s10 s12 s16 s17 s18 s19 s20)) n 0 0 (zR (some (.int (aLeft g y).2)) (z2 h a (zAr 0 246 (g)) (zMo a s3 s5 s6 s7 (nI (aLeft g y).1) s10 s12 s16 s17 s18 s19 s20)) n) := by
  refine zC_of (ls := [some (.ref a), some (.int y)]) hl (by decide +kernel) rfl (Nat.le_of_ble_eq_true rfl) rfl ?_
  refine zs_aload_n (pc := 0) dM_daysUntilFadedByDays_0 rfl ?_
  refine zs_iload_n (pc := 1) dM_daysUntilFadedByDays_1 rfl ?_
  refine zcV1_1 (pc := 2) (d2 := d - 1) (s_M_daysUntilFaded hl (by omega) hI hB y) dM_daysUntilFadedByDays_2 kM_177 mdM_daysUntilFaded miM_daysUntilFaded mvM_daysUntilFaded rfl (by exact z2_a) rfl (Nat.le_of_ble_eq_true rfl) (by omega) (by omega) (by omega) ?_
  exact zs_iret (pc := 5) dM_daysUntilFadedByDays_5 rfl rfl (by omega) (by omega) (⟨rfl, rfl, rfl⟩)
theorem zb_tf {x y : Prop} : True := trivial
def mB (p : Nat × Int32) : Int32 := if p.1 = 0 then p.2 else 0
theorem s_M_codeAt {Γ : zG} {l : Launch} (hl : l.stackTraces = false) {d : Nat} (hd : 3 ≤ d) {h : zH} {n a : Nat} {g : Nat → Nat} {s3 s5 s6 s7 s8 s10 s12 s16 s17 s18 s19 s20 : Int32} {B : Nat} (hI : IG B g) (hB : B < 2 ^ 20) (y z : Int32) : zC Γ l d mM_codeAt [.ref a, .int y, .int z] (z2 h a (zAr 0 246 (g)) (zMo a s3 s5 s6 s7 s8 s10 s12 s16 s17 s18 s19 s20)) n 0 0 (zR (some (.int (aCodeAt g y z).2)) (z2 h a (zAr 0 246 (g)) (zMo a s3 s5 s6 s7 (nI (aCodeAt g y z).1) s10 s12 s16 s17 s18 s19 s20)) n) := by
  have i0 := hI.1
  have ho := s_M_ofEntry (Γ := Γ) (l := l) (h := h) (n := n) (a := a) (s3 := s3) (s5 := s5) (s6 := s6) (s7 := s7) (s8 := s8) (s10 := s10) (s12 := s12) (s16 := s16) (s17 := s17) (s18 := s18) (s19 := s19) (s20 := s20) hl (d := d - 1) (by omega) hI y (i := 5) (by decide)
  unfold aOf at ho
  unfold aCodeAt
  refine zC_of (ls := [some (.ref a), some (.int y), some (.int z), none]) hl (by decide +kernel) rfl (Nat.le_of_ble_eq_true rfl) rfl ?_
  cases hH : zHas g y with
  | true =>
    rw [hH, if_pos rfl] at ho
    rw [if_pos rfl]
    obtain ⟨f1, f2, f3⟩ := zHas_y hH
    generalize zAt g y = k at f1 f2 f3 ho ⊢
    have h5 := hI.s6 k f1
    cases hv : zIx z (eg g k 5) with
    | true =>
      rw [if_pos rfl]
      have hv9 := hv
      obtain ⟨v1, v2⟩ := zIx_y hv
      generalize z.toInt.toNat = i at v1 v2 ⊢
      subst v2
      refine zs_aload_n (pc := 0) dM_codeAt_0 rfl ?_
      refine zs_iload_n (pc := 1) dM_codeAt_1 rfl ?_
      refine zs_iconst (pc := 2) dM_codeAt_2 zi_5 ?_
      refine zcV1_2 (pc := 3) (d2 := d - 1) (ho) dM_codeAt_3 kM_157 mdM_ofEntry miM_ofEntry mvM_ofEntry rfl (by exact z2_a) rfl (Nat.le_of_ble_eq_true rfl) (by omega) (by omega) (by omega) ?_
      refine zs_istore_n (pc := 6) (ls2 := [_, _, _, _]) dM_codeAt_6 (Nat.le_of_ble_eq_true rfl) rfl ?_
      refine zs_aload_n (pc := 7) dM_codeAt_7 rfl ?_
      refine zs_get (pc := 8) dM_codeAt_8 fM_45 (by first | exact z2_a | exact z2_1) (by rfl) ?_
      refine zn_if_le (pc := 11) 16 dM_codeAt_11 rfl (by omega) (fun _ => ?_) (fun h9 => absurd h9 (Nat.lt_irrefl 0))
      refine zs_iload_n (pc := 16) dM_codeAt_16 rfl ?_
      refine zs_i2l (pc := 17) dM_codeAt_17 ?_
      refine zs_lconst (pc := 18) (v := 0) dM_codeAt_18 (by decide) ?_
      refine zs_iload_n (pc := 19) dM_codeAt_19 rfl ?_
      refine zs_iconst (pc := 20) dM_codeAt_20 zi_1 ?_
      refine zs_isub (pc := 21) dM_codeAt_21 ?_
      refine zs_i2l (pc := 22) dM_codeAt_22 ?_
      refine zcS1_3 (pc := 23) (d2 := d - 1) (s_M_inX_y hl (by decide) (nI_m64 (by omega)) hv9) dM_codeAt_23 kM_55 mdM_in msM_in rfl (Nat.le_of_ble_eq_true rfl) (by omega) (by omega) (by omega) ?_
      refine zs_if_eq (pc := 26) 42 dM_codeAt_26 rfl (fun h9 => absurd h9 (by decide)) (fun _ => ?_)
      refine zs_aload_n (pc := 29) dM_codeAt_29 rfl ?_
      refine zs_aload_n (pc := 30) dM_codeAt_30 rfl ?_
      refine zs_iload_n (pc := 31) dM_codeAt_31 rfl ?_
      refine zcV1_1 (pc := 32) (d2 := d - 1) (s_M_find_y hl (by omega) i0 f1 f2 f3) dM_codeAt_32 kM_102 mdM_find miM_find mvM_find rfl (by exact z2_a) rfl (Nat.le_of_ble_eq_true rfl) (by omega) (by omega) (by omega) ?_
      refine zs_iload_n (pc := 35) dM_codeAt_35 rfl ?_
      refine zcV1_2 (pc := 36) (d2 := d - 1) (s_M_codeOf hl (by omega) (by omega) (by omega)) dM_codeAt_36 kM_62 mdM_codeOf miM_codeOf mvM_codeOf rfl (by exact z2_a) rfl (Nat.le_of_ble_eq_true rfl) (by omega) (by omega) (by omega) ?_
      refine zs_goto (pc := 39) 47 dM_codeAt_39 rfl ?_
      exact zs_iret (pc := 47) dM_codeAt_47 rfl rfl (by omega) (by omega) (⟨rfl, rfl, rfl⟩)
    | false =>
      rw [if_neg (by decide)]
      refine zs_aload_n (pc := 0) dM_codeAt_0 rfl ?_
      refine zs_iload_n (pc := 1) dM_codeAt_1 rfl ?_
      refine zs_iconst (pc := 2) dM_codeAt_2 zi_5 ?_
      refine zcV1_2 (pc := 3) (d2 := d - 1) (ho) dM_codeAt_3 kM_157 mdM_ofEntry miM_ofEntry mvM_ofEntry rfl (by exact z2_a) rfl (Nat.le_of_ble_eq_true rfl) (by omega) (by omega) (by omega) ?_
      refine zs_istore_n (pc := 6) (ls2 := [_, _, _, _]) dM_codeAt_6 (Nat.le_of_ble_eq_true rfl) rfl ?_
      refine zs_aload_n (pc := 7) dM_codeAt_7 rfl ?_
      refine zs_get (pc := 8) dM_codeAt_8 fM_45 (by first | exact z2_a | exact z2_1) (by rfl) ?_
      refine zn_if_le (pc := 11) 16 dM_codeAt_11 rfl (by omega) (fun _ => ?_) (fun h9 => absurd h9 (Nat.lt_irrefl 0))
      refine zs_iload_n (pc := 16) dM_codeAt_16 rfl ?_
      refine zs_i2l (pc := 17) dM_codeAt_17 ?_
      refine zs_lconst (pc := 18) (v := 0) dM_codeAt_18 (by decide) ?_
      refine zs_iload_n (pc := 19) dM_codeAt_19 rfl ?_
      refine zs_iconst (pc := 20) dM_codeAt_20 zi_1 ?_
      refine zs_isub (pc := 21) dM_codeAt_21 ?_
      refine zs_i2l (pc := 22) dM_codeAt_22 ?_
      refine zcS1_3 (pc := 23) (d2 := d - 1) (s_M_inX_n hl (by decide) (nI_m64 (by omega)) hv) dM_codeAt_23 kM_55 mdM_in msM_in rfl (Nat.le_of_ble_eq_true rfl) (by omega) (by omega) (by omega) ?_
      refine zs_if_eq (pc := 26) 42 dM_codeAt_26 rfl (fun _ => ?_) (fun h9 => absurd h9 (by decide))
      refine zs_aload_n (pc := 42) dM_codeAt_42 rfl ?_
      refine zs_iconst (pc := 43) dM_codeAt_43 zi_2 ?_
      refine zcV1_1 (pc := 44) (d2 := d - 1) (s_M_throwing hl) dM_codeAt_44 kM_90 mdM_throwing miM_throwing mvM_throwing rfl (by exact z2_a) rfl (Nat.le_of_ble_eq_true rfl) (by omega) (by omega) (by omega) ?_
      exact zs_iret (pc := 47) dM_codeAt_47 rfl rfl (by omega) (by omega) (⟨rfl, rfl, rfl⟩)
  | false =>
    rw [hH, if_neg (by decide)] at ho
    rw [if_neg (by decide)]
    refine zs_aload_n (pc := 0) dM_codeAt_0 rfl ?_
    refine zs_iload_n (pc := 1) dM_codeAt_1 rfl ?_
    refine zs_iconst (pc := 2) dM_codeAt_2 zi_5 ?_
    refine zcV1_2 (pc := 3) (d2 := d - 1) (ho) dM_codeAt_3 kM_157 mdM_ofEntry miM_ofEntry mvM_ofEntry rfl (by exact z2_a) rfl (Nat.le_of_ble_eq_true rfl) (by omega) (by omega) (by omega) ?_
    refine zs_istore_n (pc := 6) (ls2 := [_, _, _, _]) dM_codeAt_6 (Nat.le_of_ble_eq_true rfl) rfl ?_
    refine zs_aload_n (pc := 7) dM_codeAt_7 rfl ?_
    refine zs_get (pc := 8) dM_codeAt_8 fM_45 (by first | exact z2_a | exact z2_1) (by rfl) ?_
    refine zn_if_le (pc := 11) 16 dM_codeAt_11 rfl (by omega) (fun h9 => absurd h9 (by decide)) (fun _ => ?_)
    refine zs_iconst (pc := 14) dM_codeAt_14 zi_m1 ?_
    exact zs_iret (pc := 15) dM_codeAt_15 rfl rfl (by omega) (by omega) (⟨rfl, rfl, rfl⟩)
theorem s_M_hasCode {Γ : zG} {l : Launch} (hl : l.stackTraces = false) {d : Nat} (hd : 3 ≤ d) {h : zH} {n a : Nat} {g : Nat → Nat} {s3 s5 s6 s7 s8 s10 s12 s16 s17 s18 s19 s20 : Int32} {B : Nat} (hI : IG B g) (hB : B < 2 ^ 20) (y z : Int32) : zC Γ l d mM_hasCode [.ref a, .int y, .int z] (z2 h a (zAr 0 246 (g)) (zMo a s3 s5 s6 s7 s8 s10 s12 s16 s17 s18 s19 s20)) n 0 0 (zR (some (.int (mB (aHas g y z)))) (z2 h a (zAr 0 246 (g)) (zMo a s3 s5 s6 s7 (nI (aHas g y z).1) s10 s12 s16 s17 s18 s19 s20)) n) := by
  have i0 := hI.1
  unfold aHas
  refine zC_of (ls := [some (.ref a), some (.int y), some (.int z)]) hl (by decide +kernel) rfl (Nat.le_of_ble_eq_true rfl) rfl ?_
  cases hH : zHas g y with
  | true =>
    rw [if_pos rfl]
    obtain ⟨f1, f2, f3⟩ := zHas_y hH
    generalize zAt g y = k at f1 f2 f3 ⊢
    have h5 := hI.s6 k f1
    have hc := hI.c f1
    cases hv : zV z 0 999 with
    | true =>
      rw [if_pos rfl]
      have hv9 := hv
      obtain ⟨v1, v2, v3⟩ := zV_y hv
      generalize z.toInt.toNat = w at v1 v2 v3 ⊢
      subst v3
      have hmz : 0 < zmany (eg g k) 3 w ↔ zin (eg g k) w = true := by rw [← zin_dec, decide_eq_true_iff]
      have hm6 : zmany (eg g k) 3 w ≤ eg g k 5 := zcnt_le _ _
      refine zs_aload_n (pc := 0) dM_hasCode_0 rfl ?_
      refine zs_iconst (pc := 1) dM_hasCode_1 zi_0 ?_
      refine zs_put (pc := 2) (fs2 := [_, _, _, _, _, _, _, _, _, _, _, _, _, _, _, _, _, _, _, _, _]) dM_hasCode_2 fM_45 (by first | exact z2_a | exact z2_1) (by rfl) (by rfl) (by exact Nat.le_of_ble_eq_true rfl) (by rfl) ?_
      rw [z2_O]
      refine zs_aload_n (pc := 5) dM_hasCode_5 rfl ?_
      refine zs_iload_n (pc := 6) dM_hasCode_6 rfl ?_
      refine zcV1_1 (pc := 7) (d2 := d - 1) (s_M_find_y hl (by omega) i0 f1 f2 f3) dM_hasCode_7 kM_102 mdM_find miM_find mvM_find rfl (by exact z2_a) rfl (Nat.le_of_ble_eq_true rfl) (by omega) (by omega) (by omega) ?_
      refine zs_iconst (pc := 10) dM_hasCode_10 zi_m1 ?_
      refine zs_icmp_ne (pc := 11) 23 dM_hasCode_11 rfl (fun _ => ?_) (fun h9 => absurd h9 (nI_kn (by omega)))
      refine zs_iload_n (pc := 23) dM_hasCode_23 rfl ?_
      refine zs_i2l (pc := 24) dM_hasCode_24 ?_
      refine zs_lconst (pc := 25) (v := 0) dM_hasCode_25 (by decide) ?_
      refine zs_ldc2 (pc := 26) (v := 999) dM_hasCode_26 (zt6 (i := 149) rfl) ?_
      refine zcS1_3 (pc := 29) (d2 := d - 1) (s_M_inV_y hl (by decide) (by decide) hv9) dM_hasCode_29 kM_55 mdM_in msM_in rfl (Nat.le_of_ble_eq_true rfl) (by omega) (by omega) (by omega) ?_
      refine zs_if_ne (pc := 32) 41 dM_hasCode_32 rfl (fun _ => ?_) (fun h9 => absurd h9 (by decide))
      refine zs_aload_n (pc := 41) dM_hasCode_41 rfl ?_
      refine zs_get (pc := 42) dM_hasCode_42 fM_45 (by first | exact z2_a | exact z2_1) (by rfl) ?_
      refine zn_if_ne (pc := 45) 66 dM_hasCode_45 rfl (by omega) (fun h9 => absurd h9 (fun q => q rfl)) (fun _ => ?_)
      refine zs_aload_n (pc := 48) dM_hasCode_48 rfl ?_
      refine zs_aload_n (pc := 49) dM_hasCode_49 rfl ?_
      refine zs_iload_n (pc := 50) dM_hasCode_50 rfl ?_
      refine zcV1_1 (pc := 51) (d2 := d - 1) (s_M_find_y hl (by omega) i0 f1 f2 f3) dM_hasCode_51 kM_102 mdM_find miM_find mvM_find rfl (by exact z2_a) rfl (Nat.le_of_ble_eq_true rfl) (by omega) (by omega) (by omega) ?_
      refine zs_iconst (pc := 54) dM_hasCode_54 zi_3 ?_
      refine zs_iload_n (pc := 55) dM_hasCode_55 rfl ?_
      refine zcV1_3 (pc := 56) (d2 := d - 1) (s_M_many hl (by omega) (by omega) h5 hc (by decide) (by omega)) dM_hasCode_56 kM_70 mdM_many miM_many mvM_many rfl (by exact z2_a) rfl (Nat.le_of_ble_eq_true rfl) (by omega) (by omega) (by omega) ?_
      cases e : zin (eg g k) w with
      | true =>
        have hm := hmz.mpr e
        refine zn_if_le (pc := 59) 66 dM_hasCode_59 rfl (by omega) (fun h9 => absurd h9 (by omega)) (fun _ => ?_)
        refine zs_iconst (pc := 62) dM_hasCode_62 zi_1 ?_
        refine zs_goto (pc := 63) 67 dM_hasCode_63 rfl ?_
        exact zs_iret (pc := 67) dM_hasCode_67 rfl (by first | rfl | exact znarB _) (by omega) (by omega) (⟨rfl, rfl, rfl⟩)
      | false =>
        have hm : ¬ 0 < zmany (eg g k) 3 w := fun q => by rw [hmz.mp q] at e; cases e
        refine zn_if_le (pc := 59) 66 dM_hasCode_59 rfl (by omega) (fun _ => ?_) (fun h9 => absurd h9 (by omega))
        refine zs_iconst (pc := 66) dM_hasCode_66 zi_0 ?_
        exact zs_iret (pc := 67) dM_hasCode_67 rfl (by first | rfl | exact znarB _) (by omega) (by omega) (⟨rfl, rfl, rfl⟩)
    | false =>
      rw [if_neg (by decide)]
      refine zs_aload_n (pc := 0) dM_hasCode_0 rfl ?_
      refine zs_iconst (pc := 1) dM_hasCode_1 zi_0 ?_
      refine zs_put (pc := 2) (fs2 := [_, _, _, _, _, _, _, _, _, _, _, _, _, _, _, _, _, _, _, _, _]) dM_hasCode_2 fM_45 (by first | exact z2_a | exact z2_1) (by rfl) (by rfl) (by exact Nat.le_of_ble_eq_true rfl) (by rfl) ?_
      rw [z2_O]
      refine zs_aload_n (pc := 5) dM_hasCode_5 rfl ?_
      refine zs_iload_n (pc := 6) dM_hasCode_6 rfl ?_
      refine zcV1_1 (pc := 7) (d2 := d - 1) (s_M_find_y hl (by omega) i0 f1 f2 f3) dM_hasCode_7 kM_102 mdM_find miM_find mvM_find rfl (by exact z2_a) rfl (Nat.le_of_ble_eq_true rfl) (by omega) (by omega) (by omega) ?_
      refine zs_iconst (pc := 10) dM_hasCode_10 zi_m1 ?_
      refine zs_icmp_ne (pc := 11) 23 dM_hasCode_11 rfl (fun _ => ?_) (fun h9 => absurd h9 (nI_kn (by omega)))
      refine zs_iload_n (pc := 23) dM_hasCode_23 rfl ?_
      refine zs_i2l (pc := 24) dM_hasCode_24 ?_
      refine zs_lconst (pc := 25) (v := 0) dM_hasCode_25 (by decide) ?_
      refine zs_ldc2 (pc := 26) (v := 999) dM_hasCode_26 (zt6 (i := 149) rfl) ?_
      refine zcS1_3 (pc := 29) (d2 := d - 1) (s_M_inV_n hl (by decide) (by decide) hv) dM_hasCode_29 kM_55 mdM_in msM_in rfl (Nat.le_of_ble_eq_true rfl) (by omega) (by omega) (by omega) ?_
      refine zs_if_ne (pc := 32) 41 dM_hasCode_32 rfl (fun h9 => absurd h9 (by decide)) (fun _ => ?_)
      refine zs_aload_n (pc := 35) dM_hasCode_35 rfl ?_
      refine zs_iconst (pc := 36) dM_hasCode_36 zi_2 ?_
      refine zcV1_1 (pc := 37) (d2 := d - 1) (s_M_throwing hl) dM_hasCode_37 kM_90 mdM_throwing miM_throwing mvM_throwing rfl (by exact z2_a) rfl (Nat.le_of_ble_eq_true rfl) (by omega) (by omega) (by omega) ?_
      refine zs_pop (pc := 40) dM_hasCode_40 rfl ?_
      refine zs_aload_n (pc := 41) dM_hasCode_41 rfl ?_
      refine zs_get (pc := 42) dM_hasCode_42 fM_45 (by first | exact z2_a | exact z2_1) (by rfl) ?_
      refine zn_if_ne (pc := 45) 66 dM_hasCode_45 rfl (by omega) (fun _ => ?_) (fun h9 => absurd h9 (by decide))
      refine zs_iconst (pc := 66) dM_hasCode_66 zi_0 ?_
      exact zs_iret (pc := 67) dM_hasCode_67 rfl (by first | rfl | exact znarB _) (by omega) (by omega) (⟨rfl, rfl, rfl⟩)
  | false =>
    rw [if_neg (by decide)]
    refine zs_aload_n (pc := 0) dM_hasCode_0 rfl ?_
    refine zs_iconst (pc := 1) dM_hasCode_1 zi_0 ?_
    refine zs_put (pc := 2) (fs2 := [_, _, _, _, _, _, _, _, _, _, _, _, _, _, _, _, _, _, _, _, _]) dM_hasCode_2 fM_45 (by first | exact z2_a | exact z2_1) (by rfl) (by rfl) (by exact Nat.le_of_ble_eq_true rfl) (by rfl) ?_
    rw [z2_O]
    refine zs_aload_n (pc := 5) dM_hasCode_5 rfl ?_
    refine zs_iload_n (pc := 6) dM_hasCode_6 rfl ?_
    refine zcV1_1 (pc := 7) (d2 := d - 1) (s_M_find_n hl (by omega) i0 hH) dM_hasCode_7 kM_102 mdM_find miM_find mvM_find rfl (by exact z2_a) rfl (Nat.le_of_ble_eq_true rfl) (by omega) (by omega) (by omega) ?_
    refine zs_iconst (pc := 10) dM_hasCode_10 zi_m1 ?_
    refine zs_icmp_ne (pc := 11) 23 dM_hasCode_11 rfl (fun h9 => absurd h9 (fun q => q rfl)) (fun _ => ?_)
    refine zs_aload_n (pc := 14) dM_hasCode_14 rfl ?_
    refine zs_iconst (pc := 15) dM_hasCode_15 zi_1 ?_
    refine zcV1_1 (pc := 16) (d2 := d - 1) (s_M_throwing hl) dM_hasCode_16 kM_90 mdM_throwing miM_throwing mvM_throwing rfl (by exact z2_a) rfl (Nat.le_of_ble_eq_true rfl) (by omega) (by omega) (by omega) ?_
    refine zs_pop (pc := 19) dM_hasCode_19 rfl ?_
    refine zs_goto (pc := 20) 41 dM_hasCode_20 rfl ?_
    refine zs_aload_n (pc := 41) dM_hasCode_41 rfl ?_
    refine zs_get (pc := 42) dM_hasCode_42 fM_45 (by first | exact z2_a | exact z2_1) (by rfl) ?_
    refine zn_if_ne (pc := 45) 66 dM_hasCode_45 rfl (by omega) (fun _ => ?_) (fun h9 => absurd h9 (by decide))
    refine zs_iconst (pc := 66) dM_hasCode_66 zi_0 ?_
    exact zs_iret (pc := 67) dM_hasCode_67 rfl (by first | rfl | exact znarB _) (by omega) (by omega) (⟨rfl, rfl, rfl⟩)
theorem s_M_matches {Γ : zG} {l : Launch} (hl : l.stackTraces = false) {d : Nat} (hd : 3 ≤ d) {h : zH} {n a : Nat} {g : Nat → Nat} {s3 s5 s6 s7 s8 s10 s12 s16 s17 s18 s19 s20 : Int32} {B : Nat} (hI : IG B g) (hB : B < 2 ^ 20) (y z w : Int32) : zC Γ l d mM_matches [.ref a, .int y, .int z, .int w] (z2 h a (zAr 0 246 (g)) (zMo a s3 s5 s6 s7 s8 s10 s12 s16 s17 s18 s19 s20)) n 0 0 (zR (some (.int (mB (aMat g y z w)))) (z2 h a (zAr 0 246 (g)) (zMo a s3 s5 s6 s7 (nI (aMat g y z w).1) s10 s12 s16 s17 s18 s19 s20)) n) := by
  have i0 := hI.1
  unfold aMat
  refine zC_of (ls := [some (.ref a), some (.int y), some (.int z), some (.int w)]) hl (by decide +kernel) rfl (Nat.le_of_ble_eq_true rfl) rfl ?_
  cases hH : zHas g y with
  | true =>
    rw [if_pos rfl]
    obtain ⟨f1, f2, f3⟩ := zHas_y hH
    generalize zAt g y = k at f1 f2 f3 ⊢
    have h5 := hI.s6 k f1
    have hc := hI.c f1
    cases hv : zPv z w with
    | true =>
      rw [if_pos rfl]
      have hv2 := zPv_y hv
      generalize z.toInt.toNat = dn at hv2 ⊢
      generalize w.toInt.toNat = v at hv2 ⊢
      have hv3 := hv2
      obtain ⟨rfl, rfl, q1, q2⟩ := hv3
      have h3 := z10 q1
      have hm6 : zmany (eg g k) dn v ≤ eg g k 5 := zcnt_le _ _
      refine zs_aload_n (pc := 0) dM_matches_0 rfl ?_
      refine zs_iconst (pc := 1) dM_matches_1 zi_0 ?_
      refine zs_put (pc := 2) (fs2 := [_, _, _, _, _, _, _, _, _, _, _, _, _, _, _, _, _, _, _, _, _]) dM_matches_2 fM_45 (by first | exact z2_a | exact z2_1) (by rfl) (by rfl) (by exact Nat.le_of_ble_eq_true rfl) (by rfl) ?_
      rw [z2_O]
      refine zs_aload_n (pc := 5) dM_matches_5 rfl ?_
      refine zs_iload_n (pc := 6) dM_matches_6 rfl ?_
      refine zcV1_1 (pc := 7) (d2 := d - 1) (s_M_find_y hl (by omega) i0 f1 f2 f3) dM_matches_7 kM_102 mdM_find miM_find mvM_find rfl (by exact z2_a) rfl (Nat.le_of_ble_eq_true rfl) (by omega) (by omega) (by omega) ?_
      refine zs_iconst (pc := 10) dM_matches_10 zi_m1 ?_
      refine zs_icmp_ne (pc := 11) 23 dM_matches_11 rfl (fun _ => ?_) (fun h9 => absurd h9 (nI_kn (by omega)))
      refine zs_iload_n (pc := 23) dM_matches_23 rfl ?_
      refine zs_iload_n (pc := 24) dM_matches_24 rfl ?_
      refine zs_iconst (pc := 25) dM_matches_25 zi_3 ?_
      refine zcS1_3 (pc := 26) (d2 := d - 1) (s_M_isPrefix_y hl (by omega) hv2 q1 (by decide)) dM_matches_26 kM_143 mdM_isPrefix msM_isPrefix rfl (Nat.le_of_ble_eq_true rfl) (by omega) (by omega) (by omega) ?_
      refine zs_if_ne (pc := 29) 38 dM_matches_29 rfl (fun _ => ?_) (fun h9 => absurd h9 (by decide))
      refine zs_aload_n (pc := 38) dM_matches_38 rfl ?_
      refine zs_get (pc := 39) dM_matches_39 fM_45 (by first | exact z2_a | exact z2_1) (by rfl) ?_
      refine zn_if_ne (pc := 42) 63 dM_matches_42 rfl (by omega) (fun h9 => absurd h9 (fun q => q rfl)) (fun _ => ?_)
      refine zs_aload_n (pc := 45) dM_matches_45 rfl ?_
      refine zs_aload_n (pc := 46) dM_matches_46 rfl ?_
      refine zs_iload_n (pc := 47) dM_matches_47 rfl ?_
      refine zcV1_1 (pc := 48) (d2 := d - 1) (s_M_find_y hl (by omega) i0 f1 f2 f3) dM_matches_48 kM_102 mdM_find miM_find mvM_find rfl (by exact z2_a) rfl (Nat.le_of_ble_eq_true rfl) (by omega) (by omega) (by omega) ?_
      refine zs_iload_n (pc := 51) dM_matches_51 rfl ?_
      refine zs_iload_n (pc := 52) dM_matches_52 rfl ?_
      refine zcV1_3 (pc := 53) (d2 := d - 1) (s_M_many hl (by omega) (by omega) h5 hc q1 (by omega)) dM_matches_53 kM_70 mdM_many miM_many mvM_many rfl (by exact z2_a) rfl (Nat.le_of_ble_eq_true rfl) (by omega) (by omega) (by omega) ?_
      by_cases e : 0 < zmany (eg g k) dn v
      · rw [if_pos e]
        refine zn_if_le (pc := 56) 63 dM_matches_56 rfl (by omega) (fun h9 => absurd h9 (by omega)) (fun _ => ?_)
        refine zs_iconst (pc := 59) dM_matches_59 zi_1 ?_
        refine zs_goto (pc := 60) 64 dM_matches_60 rfl ?_
        exact zs_iret (pc := 64) dM_matches_64 rfl (by first | rfl | exact znarB _) (by omega) (by omega) (⟨rfl, rfl, rfl⟩)
      · rw [if_neg e]
        refine zn_if_le (pc := 56) 63 dM_matches_56 rfl (by omega) (fun _ => ?_) (fun h9 => absurd h9 (by omega))
        refine zs_iconst (pc := 63) dM_matches_63 zi_0 ?_
        exact zs_iret (pc := 64) dM_matches_64 rfl (by first | rfl | exact znarB _) (by omega) (by omega) (⟨rfl, rfl, rfl⟩)
    | false =>
      rw [if_neg (by decide)]
      have hv2 := zPv_n hv
      refine zs_aload_n (pc := 0) dM_matches_0 rfl ?_
      refine zs_iconst (pc := 1) dM_matches_1 zi_0 ?_
      refine zs_put (pc := 2) (fs2 := [_, _, _, _, _, _, _, _, _, _, _, _, _, _, _, _, _, _, _, _, _]) dM_matches_2 fM_45 (by first | exact z2_a | exact z2_1) (by rfl) (by rfl) (by exact Nat.le_of_ble_eq_true rfl) (by rfl) ?_
      rw [z2_O]
      refine zs_aload_n (pc := 5) dM_matches_5 rfl ?_
      refine zs_iload_n (pc := 6) dM_matches_6 rfl ?_
      refine zcV1_1 (pc := 7) (d2 := d - 1) (s_M_find_y hl (by omega) i0 f1 f2 f3) dM_matches_7 kM_102 mdM_find miM_find mvM_find rfl (by exact z2_a) rfl (Nat.le_of_ble_eq_true rfl) (by omega) (by omega) (by omega) ?_
      refine zs_iconst (pc := 10) dM_matches_10 zi_m1 ?_
      refine zs_icmp_ne (pc := 11) 23 dM_matches_11 rfl (fun _ => ?_) (fun h9 => absurd h9 (nI_kn (by omega)))
      refine zs_iload_n (pc := 23) dM_matches_23 rfl ?_
      refine zs_iload_n (pc := 24) dM_matches_24 rfl ?_
      refine zs_iconst (pc := 25) dM_matches_25 zi_3 ?_
      refine zcS1_3 (pc := 26) (d2 := d - 1) (s_M_isPrefix_n hl (by omega) (fun ⟨a1, a2, a3, _⟩ => hv2 ⟨a1, a2, a3⟩) (by decide)) dM_matches_26 kM_143 mdM_isPrefix msM_isPrefix rfl (Nat.le_of_ble_eq_true rfl) (by omega) (by omega) (by omega) ?_
      refine zs_if_ne (pc := 29) 38 dM_matches_29 rfl (fun h9 => absurd h9 (by decide)) (fun _ => ?_)
      refine zs_aload_n (pc := 32) dM_matches_32 rfl ?_
      refine zs_iconst (pc := 33) dM_matches_33 zi_2 ?_
      refine zcV1_1 (pc := 34) (d2 := d - 1) (s_M_throwing hl) dM_matches_34 kM_90 mdM_throwing miM_throwing mvM_throwing rfl (by exact z2_a) rfl (Nat.le_of_ble_eq_true rfl) (by omega) (by omega) (by omega) ?_
      refine zs_pop (pc := 37) dM_matches_37 rfl ?_
      refine zs_aload_n (pc := 38) dM_matches_38 rfl ?_
      refine zs_get (pc := 39) dM_matches_39 fM_45 (by first | exact z2_a | exact z2_1) (by rfl) ?_
      refine zn_if_ne (pc := 42) 63 dM_matches_42 rfl (by omega) (fun _ => ?_) (fun h9 => absurd h9 (by decide))
      refine zs_iconst (pc := 63) dM_matches_63 zi_0 ?_
      exact zs_iret (pc := 64) dM_matches_64 rfl (by first | rfl | exact znarB _) (by omega) (by omega) (⟨rfl, rfl, rfl⟩)
  | false =>
    rw [if_neg (by decide)]
    refine zs_aload_n (pc := 0) dM_matches_0 rfl ?_
    refine zs_iconst (pc := 1) dM_matches_1 zi_0 ?_
    refine zs_put (pc := 2) (fs2 := [_, _, _, _, _, _, _, _, _, _, _, _, _, _, _, _, _, _, _, _, _]) dM_matches_2 fM_45 (by first | exact z2_a | exact z2_1) (by rfl) (by rfl) (by exact Nat.le_of_ble_eq_true rfl) (by rfl) ?_
    rw [z2_O]
    refine zs_aload_n (pc := 5) dM_matches_5 rfl ?_
    refine zs_iload_n (pc := 6) dM_matches_6 rfl ?_
    refine zcV1_1 (pc := 7) (d2 := d - 1) (s_M_find_n hl (by omega) i0 hH) dM_matches_7 kM_102 mdM_find miM_find mvM_find rfl (by exact z2_a) rfl (Nat.le_of_ble_eq_true rfl) (by omega) (by omega) (by omega) ?_
    refine zs_iconst (pc := 10) dM_matches_10 zi_m1 ?_
    refine zs_icmp_ne (pc := 11) 23 dM_matches_11 rfl (fun h9 => absurd h9 (fun q => q rfl)) (fun _ => ?_)
    refine zs_aload_n (pc := 14) dM_matches_14 rfl ?_
    refine zs_iconst (pc := 15) dM_matches_15 zi_1 ?_
    refine zcV1_1 (pc := 16) (d2 := d - 1) (s_M_throwing hl) dM_matches_16 kM_90 mdM_throwing miM_throwing mvM_throwing rfl (by exact z2_a) rfl (Nat.le_of_ble_eq_true rfl) (by omega) (by omega) (by omega) ?_
    refine zs_pop (pc := 19) dM_matches_19 rfl ?_
    refine zs_goto (pc := 20) 38 dM_matches_20 rfl ?_
    refine zs_aload_n (pc := 38) dM_matches_38 rfl ?_
    refine zs_get (pc := 39) dM_matches_39 fM_45 (by first | exact z2_a | exact z2_1) (by rfl) ?_
    refine zn_if_ne (pc := 42) 63 dM_matches_42 rfl (by omega) (fun _ => ?_) (fun h9 => absurd h9 (by decide))
    refine zs_iconst (pc := 63) dM_matches_63 zi_0 ?_
    exact zs_iret (pc := 64) dM_matches_64 rfl (by first | rfl | exact znarB _) (by omega) (by omega) (⟨rfl, rfl, rfl⟩)
theorem s_M_resultCount {Γ : zG} {l : Launch} (hl : l.stackTraces = false) {d : Nat} (hd : 4 ≤ d) {h : zH} {n a : Nat} {g : Nat → Nat} {s3 s5 s6 s7 s8 s10 s12 s16 s17 s18 s19 s20 : Int32} {B : Nat} (hI : IG B g) (y z : Int32) : zC Γ l d mM_resultCount [.ref a, .int y, .int z] (z2 h a (zAr 0 246 (g)) (zMo a s3 s5 s6 s7 s8 s10 s12 s16 s17 s18 s19 s20)) n 0 0 (zR (some (.int (aRes g y z).2)) (z2 h a (zAr 0 246 (g)) (zMo a s3 s5 s6 s7 (nI (aRes g y z).1) s10 s12 s16 s17 s18 s19 s20)) n) := by
  unfold aRes
  refine zC_of (ls := [some (.ref a), some (.int y), some (.int z)]) hl (by decide +kernel) rfl (Nat.le_of_ble_eq_true rfl) rfl ?_
  cases hv : zPv y z with
  | true =>
    rw [if_pos rfl]
    have hv2 := zPv_y hv
    generalize y.toInt.toNat = dn at hv2 ⊢
    generalize z.toInt.toNat = v at hv2 ⊢
    have hv3 := hv2
    obtain ⟨rfl, rfl, q1, q2⟩ := hv3
    have h3 := z10 q1
    refine zs_aload_n (pc := 0) dM_resultCount_0 rfl ?_
    refine zs_iconst (pc := 1) dM_resultCount_1 zi_0 ?_
    refine zs_put (pc := 2) (fs2 := [_, _, _, _, _, _, _, _, _, _, _, _, _, _, _, _, _, _, _, _, _]) dM_resultCount_2 fM_45 (by first | exact z2_a | exact z2_1) (by rfl) (by rfl) (by exact Nat.le_of_ble_eq_true rfl) (by rfl) ?_
    rw [z2_O]
    refine zs_iload_n (pc := 5) dM_resultCount_5 rfl ?_
    refine zs_iload_n (pc := 6) dM_resultCount_6 rfl ?_
    refine zs_iconst (pc := 7) dM_resultCount_7 zi_3 ?_
    refine zcS1_3 (pc := 8) (d2 := d - 1) (s_M_isPrefix_y hl (by omega) hv2 q1 (by decide)) dM_resultCount_8 kM_143 mdM_isPrefix msM_isPrefix rfl (Nat.le_of_ble_eq_true rfl) (by omega) (by omega) (by omega) ?_
    refine zs_if_eq (pc := 11) 23 dM_resultCount_11 rfl (fun h9 => absurd h9 (by decide)) (fun _ => ?_)
    refine zs_aload_n (pc := 14) dM_resultCount_14 rfl ?_
    refine zs_iload_n (pc := 15) dM_resultCount_15 rfl ?_
    refine zs_iload_n (pc := 16) dM_resultCount_16 rfl ?_
    refine zcV1_2 (pc := 17) (d2 := d - 1) (s_M_results hl (by omega) hI q1 (by omega)) dM_resultCount_17 kM_77 mdM_results miM_results mvM_results rfl (by exact z2_a) rfl (Nat.le_of_ble_eq_true rfl) (by omega) (by omega) (by omega) ?_
    refine zs_goto (pc := 20) 28 dM_resultCount_20 rfl ?_
    exact zs_iret (pc := 28) dM_resultCount_28 rfl rfl (by omega) (by omega) (⟨rfl, rfl, rfl⟩)
  | false =>
    rw [if_neg (by decide)]
    have hv2 := zPv_n hv
    refine zs_aload_n (pc := 0) dM_resultCount_0 rfl ?_
    refine zs_iconst (pc := 1) dM_resultCount_1 zi_0 ?_
    refine zs_put (pc := 2) (fs2 := [_, _, _, _, _, _, _, _, _, _, _, _, _, _, _, _, _, _, _, _, _]) dM_resultCount_2 fM_45 (by first | exact z2_a | exact z2_1) (by rfl) (by rfl) (by exact Nat.le_of_ble_eq_true rfl) (by rfl) ?_
    rw [z2_O]
    refine zs_iload_n (pc := 5) dM_resultCount_5 rfl ?_
    refine zs_iload_n (pc := 6) dM_resultCount_6 rfl ?_
    refine zs_iconst (pc := 7) dM_resultCount_7 zi_3 ?_
    refine zcS1_3 (pc := 8) (d2 := d - 1) (s_M_isPrefix_n hl (by omega) (fun ⟨a1, a2, a3, _⟩ => hv2 ⟨a1, a2, a3⟩) (by decide)) dM_resultCount_8 kM_143 mdM_isPrefix msM_isPrefix rfl (Nat.le_of_ble_eq_true rfl) (by omega) (by omega) (by omega) ?_
    refine zs_if_eq (pc := 11) 23 dM_resultCount_11 rfl (fun _ => ?_) (fun h9 => absurd h9 (by decide))
    refine zs_aload_n (pc := 23) dM_resultCount_23 rfl ?_
    refine zs_iconst (pc := 24) dM_resultCount_24 zi_1 ?_
    refine zcV1_1 (pc := 25) (d2 := d - 1) (s_M_throwing hl) dM_resultCount_25 kM_90 mdM_throwing miM_throwing mvM_throwing rfl (by exact z2_a) rfl (Nat.le_of_ble_eq_true rfl) (by omega) (by omega) (by omega) ?_
    exact zs_iret (pc := 28) dM_resultCount_28 rfl rfl (by omega) (by omega) (⟨rfl, rfl, rfl⟩)
theorem s_M_resultCountByScan {Γ : zG} {l : Launch} (hl : l.stackTraces = false) {d : Nat} (hd : 5 ≤ d) {h : zH} {n a : Nat} {g : Nat → Nat} {s3 s5 s6 s7 s8 s10 s12 s16 s17 s18 s19 s20 : Int32} {B : Nat} (hI : IG B g) (y z : Int32) : zC Γ l d mM_resultCountByScan [.ref a, .int y, .int z] (z2 h a (zAr 0 246 (g)) (zMo a s3 s5 s6 s7 s8 s10 s12 s16 s17 s18 s19 s20)) n 0 0 (zR (some (.int (aRes g y z).2)) (z2 h a (zAr 0 246 (g)) (zMo a s3 s5 s6 s7 (nI (aRes g y z).1) s10 s12 s16 s17 s18 s19 s20)) n) := by
  refine zC_of (ls := [some (.ref a), some (.int y), some (.int z)]) hl (by decide +kernel) rfl (Nat.le_of_ble_eq_true rfl) rfl ?_
  refine zs_aload_n (pc := 0) dM_resultCountByScan_0 rfl ?_
  refine zs_iload_n (pc := 1) dM_resultCountByScan_1 rfl ?_
  refine zs_iload_n (pc := 2) dM_resultCountByScan_2 rfl ?_
  refine zcV1_2 (pc := 3) (d2 := d - 1) (s_M_resultCount hl (by omega) hI y z) dM_resultCountByScan_3 kM_160 mdM_resultCount miM_resultCount mvM_resultCount rfl (by exact z2_a) rfl (Nat.le_of_ble_eq_true rfl) (by omega) (by omega) (by omega) ?_
  exact zs_iret (pc := 6) dM_resultCountByScan_6 rfl rfl (by omega) (by omega) (⟨rfl, rfl, rfl⟩)
theorem s_M_scoreOf {Γ : zG} {l : Launch} (hl : l.stackTraces = false) {d : Nat} (hd : 4 ≤ d) {h : zH} {n a : Nat} {g : Nat → Nat} {s3 s5 s6 s7 s8 s10 s12 s16 s17 s18 s19 s20 : Int32} {B : Nat} (hI : IG B g) (y z w : Int32) : zC Γ l d mM_scoreOf [.ref a, .int y, .int z, .int w] (z2 h a (zAr 0 246 (g)) (zMo a s3 s5 s6 s7 s8 s10 s12 s16 s17 s18 s19 s20)) n 0 0 (zR (some (.int (aScore g y z w).2)) (z2 h a (zAr 0 246 (g)) (zMo a s3 s5 s6 s7 (nI (aScore g y z w).1) s10 s12 s16 s17 s18 s19 s20)) n) := by
  have i0 := hI.1
  unfold aScore
  refine zC_of (ls := [some (.ref a), some (.int y), some (.int z), some (.int w)]) hl (by decide +kernel) rfl (Nat.le_of_ble_eq_true rfl) rfl ?_
  cases hH : zHas g y with
  | true =>
    rw [if_pos rfl]
    obtain ⟨f1, f2, f3⟩ := zHas_y hH
    generalize zAt g y = k at f1 f2 f3 ⊢
    have h5 := hI.s6 k f1
    have hc := hI.c f1
    cases hv : zPv z w with
    | true =>
      rw [if_pos rfl]
      have hv2 := zPv_y hv
      generalize z.toInt.toNat = dn at hv2 ⊢
      generalize w.toInt.toNat = v at hv2 ⊢
      have hv3 := hv2
      obtain ⟨rfl, rfl, q1, q2⟩ := hv3
      have h3 := z10 q1
      refine zs_aload_n (pc := 0) dM_scoreOf_0 rfl ?_
      refine zs_iconst (pc := 1) dM_scoreOf_1 zi_0 ?_
      refine zs_put (pc := 2) (fs2 := [_, _, _, _, _, _, _, _, _, _, _, _, _, _, _, _, _, _, _, _, _]) dM_scoreOf_2 fM_45 (by first | exact z2_a | exact z2_1) (by rfl) (by rfl) (by exact Nat.le_of_ble_eq_true rfl) (by rfl) ?_
      rw [z2_O]
      refine zs_aload_n (pc := 5) dM_scoreOf_5 rfl ?_
      refine zs_iload_n (pc := 6) dM_scoreOf_6 rfl ?_
      refine zcV1_1 (pc := 7) (d2 := d - 1) (s_M_find_y hl (by omega) i0 f1 f2 f3) dM_scoreOf_7 kM_102 mdM_find miM_find mvM_find rfl (by exact z2_a) rfl (Nat.le_of_ble_eq_true rfl) (by omega) (by omega) (by omega) ?_
      refine zs_iconst (pc := 10) dM_scoreOf_10 zi_m1 ?_
      refine zs_icmp_ne (pc := 11) 20 dM_scoreOf_11 rfl (fun _ => ?_) (fun h9 => absurd h9 (nI_kn (by omega)))
      refine zs_iload_n (pc := 20) dM_scoreOf_20 rfl ?_
      refine zs_iload_n (pc := 21) dM_scoreOf_21 rfl ?_
      refine zs_iconst (pc := 22) dM_scoreOf_22 zi_3 ?_
      refine zcS1_3 (pc := 23) (d2 := d - 1) (s_M_isPrefix_y hl (by omega) hv2 q1 (by decide)) dM_scoreOf_23 kM_143 mdM_isPrefix msM_isPrefix rfl (Nat.le_of_ble_eq_true rfl) (by omega) (by omega) (by omega) ?_
      refine zs_if_eq (pc := 26) 43 dM_scoreOf_26 rfl (fun h9 => absurd h9 (by decide)) (fun _ => ?_)
      refine zs_aload_n (pc := 29) dM_scoreOf_29 rfl ?_
      refine zs_aload_n (pc := 30) dM_scoreOf_30 rfl ?_
      refine zs_iload_n (pc := 31) dM_scoreOf_31 rfl ?_
      refine zcV1_1 (pc := 32) (d2 := d - 1) (s_M_find_y hl (by omega) i0 f1 f2 f3) dM_scoreOf_32 kM_102 mdM_find miM_find mvM_find rfl (by exact z2_a) rfl (Nat.le_of_ble_eq_true rfl) (by omega) (by omega) (by omega) ?_
      refine zs_iload_n (pc := 35) dM_scoreOf_35 rfl ?_
      refine zs_iload_n (pc := 36) dM_scoreOf_36 rfl ?_
      refine zcV1_3 (pc := 37) (d2 := d - 1) (s_M_score hl (by omega) (by omega) h5 hc q1 (by omega)) dM_scoreOf_37 kM_74 mdM_score miM_score mvM_score rfl (by exact z2_a) rfl (Nat.le_of_ble_eq_true rfl) (by omega) (by omega) (by omega) ?_
      refine zs_goto (pc := 40) 48 dM_scoreOf_40 rfl ?_
      exact zs_iret (pc := 48) dM_scoreOf_48 rfl rfl (by omega) (by omega) (⟨rfl, rfl, rfl⟩)
    | false =>
      rw [if_neg (by decide)]
      have hv2 := zPv_n hv
      refine zs_aload_n (pc := 0) dM_scoreOf_0 rfl ?_
      refine zs_iconst (pc := 1) dM_scoreOf_1 zi_0 ?_
      refine zs_put (pc := 2) (fs2 := [_, _, _, _, _, _, _, _, _, _, _, _, _, _, _, _, _, _, _, _, _]) dM_scoreOf_2 fM_45 (by first | exact z2_a | exact z2_1) (by rfl) (by rfl) (by exact Nat.le_of_ble_eq_true rfl) (by rfl) ?_
      rw [z2_O]
      refine zs_aload_n (pc := 5) dM_scoreOf_5 rfl ?_
      refine zs_iload_n (pc := 6) dM_scoreOf_6 rfl ?_
      refine zcV1_1 (pc := 7) (d2 := d - 1) (s_M_find_y hl (by omega) i0 f1 f2 f3) dM_scoreOf_7 kM_102 mdM_find miM_find mvM_find rfl (by exact z2_a) rfl (Nat.le_of_ble_eq_true rfl) (by omega) (by omega) (by omega) ?_
      refine zs_iconst (pc := 10) dM_scoreOf_10 zi_m1 ?_
      refine zs_icmp_ne (pc := 11) 20 dM_scoreOf_11 rfl (fun _ => ?_) (fun h9 => absurd h9 (nI_kn (by omega)))
      refine zs_iload_n (pc := 20) dM_scoreOf_20 rfl ?_
      refine zs_iload_n (pc := 21) dM_scoreOf_21 rfl ?_
      refine zs_iconst (pc := 22) dM_scoreOf_22 zi_3 ?_
      refine zcS1_3 (pc := 23) (d2 := d - 1) (s_M_isPrefix_n hl (by omega) (fun ⟨a1, a2, a3, _⟩ => hv2 ⟨a1, a2, a3⟩) (by decide)) dM_scoreOf_23 kM_143 mdM_isPrefix msM_isPrefix rfl (Nat.le_of_ble_eq_true rfl) (by omega) (by omega) (by omega) ?_
      refine zs_if_eq (pc := 26) 43 dM_scoreOf_26 rfl (fun _ => ?_) (fun h9 => absurd h9 (by decide))
      refine zs_aload_n (pc := 43) dM_scoreOf_43 rfl ?_
      refine zs_iconst (pc := 44) dM_scoreOf_44 zi_2 ?_
      refine zcV1_1 (pc := 45) (d2 := d - 1) (s_M_throwing hl) dM_scoreOf_45 kM_90 mdM_throwing miM_throwing mvM_throwing rfl (by exact z2_a) rfl (Nat.le_of_ble_eq_true rfl) (by omega) (by omega) (by omega) ?_
      exact zs_iret (pc := 48) dM_scoreOf_48 rfl rfl (by omega) (by omega) (⟨rfl, rfl, rfl⟩)
  | false =>
    rw [if_neg (by decide)]
    refine zs_aload_n (pc := 0) dM_scoreOf_0 rfl ?_
    refine zs_iconst (pc := 1) dM_scoreOf_1 zi_0 ?_
    refine zs_put (pc := 2) (fs2 := [_, _, _, _, _, _, _, _, _, _, _, _, _, _, _, _, _, _, _, _, _]) dM_scoreOf_2 fM_45 (by first | exact z2_a | exact z2_1) (by rfl) (by rfl) (by exact Nat.le_of_ble_eq_true rfl) (by rfl) ?_
    rw [z2_O]
    refine zs_aload_n (pc := 5) dM_scoreOf_5 rfl ?_
    refine zs_iload_n (pc := 6) dM_scoreOf_6 rfl ?_
    refine zcV1_1 (pc := 7) (d2 := d - 1) (s_M_find_n hl (by omega) i0 hH) dM_scoreOf_7 kM_102 mdM_find miM_find mvM_find rfl (by exact z2_a) rfl (Nat.le_of_ble_eq_true rfl) (by omega) (by omega) (by omega) ?_
    refine zs_iconst (pc := 10) dM_scoreOf_10 zi_m1 ?_
    refine zs_icmp_ne (pc := 11) 20 dM_scoreOf_11 rfl (fun h9 => absurd h9 (fun q => q rfl)) (fun _ => ?_)
    refine zs_aload_n (pc := 14) dM_scoreOf_14 rfl ?_
    refine zs_iconst (pc := 15) dM_scoreOf_15 zi_1 ?_
    refine zcV1_1 (pc := 16) (d2 := d - 1) (s_M_throwing hl) dM_scoreOf_16 kM_90 mdM_throwing miM_throwing mvM_throwing rfl (by exact z2_a) rfl (Nat.le_of_ble_eq_true rfl) (by omega) (by omega) (by omega) ?_
    exact zs_iret (pc := 19) dM_scoreOf_19 rfl rfl (by omega) (by omega) (⟨rfl, rfl, rfl⟩)
theorem s_M_entriesWith {Γ : zG} {l : Launch} (hl : l.stackTraces = false) {d : Nat} (hd : 5 ≤ d) {h : zH} {n a : Nat} {g : Nat → Nat} {s3 s5 s6 s7 s8 s10 s12 s16 s17 s18 s19 s20 : Int32} {B : Nat} (hI : IG B g) (y : Int32) : zC Γ l d mM_entriesWith [.ref a, .int y] (z2 h a (zAr 0 246 (g)) (zMo a s3 s5 s6 s7 s8 s10 s12 s16 s17 s18 s19 s20)) n 0 0 (zR (some (.int (aEnt g y).2)) (z2 h a (zAr 0 246 (g)) (zMo a s3 s5 s6 s7 (nI (aEnt g y).1) s10 s12 s16 s17 s18 s19 s20)) n) := by
  unfold aEnt
  refine zC_of (ls := [some (.ref a), some (.int y)]) hl (by decide +kernel) rfl (Nat.le_of_ble_eq_true rfl) rfl ?_
  cases hv : zV y 0 999 with
  | true =>
    rw [if_pos rfl]
    have hv9 := hv
    obtain ⟨v1, v2, v3⟩ := zV_y hv
    generalize y.toInt.toNat = w at v1 v2 v3 ⊢
    subst v3
    refine zs_aload_n (pc := 0) dM_entriesWith_0 rfl ?_
    refine zs_iconst (pc := 1) dM_entriesWith_1 zi_0 ?_
    refine zs_put (pc := 2) (fs2 := [_, _, _, _, _, _, _, _, _, _, _, _, _, _, _, _, _, _, _, _, _]) dM_entriesWith_2 fM_45 (by first | exact z2_a | exact z2_1) (by rfl) (by rfl) (by exact Nat.le_of_ble_eq_true rfl) (by rfl) ?_
    rw [z2_O]
    refine zs_iload_n (pc := 5) dM_entriesWith_5 rfl ?_
    refine zs_i2l (pc := 6) dM_entriesWith_6 ?_
    refine zs_lconst (pc := 7) (v := 0) dM_entriesWith_7 (by decide) ?_
    refine zs_ldc2 (pc := 8) (v := 999) dM_entriesWith_8 (zt6 (i := 149) rfl) ?_
    refine zcS1_3 (pc := 11) (d2 := d - 1) (s_M_inV_y hl (by decide) (by decide) hv9) dM_entriesWith_11 kM_55 mdM_in msM_in rfl (Nat.le_of_ble_eq_true rfl) (by omega) (by omega) (by omega) ?_
    refine zs_if_eq (pc := 14) 25 dM_entriesWith_14 rfl (fun h9 => absurd h9 (by decide)) (fun _ => ?_)
    refine zs_aload_n (pc := 17) dM_entriesWith_17 rfl ?_
    refine zs_iload_n (pc := 18) dM_entriesWith_18 rfl ?_
    refine zcV1_1 (pc := 19) (d2 := d - 1) (s_M_holders hl (by omega) hI (by omega)) dM_entriesWith_19 kM_166 mdM_holders miM_holders mvM_holders rfl (by exact z2_a) rfl (Nat.le_of_ble_eq_true rfl) (by omega) (by omega) (by omega) ?_
    refine zs_goto (pc := 22) 30 dM_entriesWith_22 rfl ?_
    exact zs_iret (pc := 30) dM_entriesWith_30 rfl rfl (by omega) (by omega) (⟨rfl, rfl, rfl⟩)
  | false =>
    rw [if_neg (by decide)]
    refine zs_aload_n (pc := 0) dM_entriesWith_0 rfl ?_
    refine zs_iconst (pc := 1) dM_entriesWith_1 zi_0 ?_
    refine zs_put (pc := 2) (fs2 := [_, _, _, _, _, _, _, _, _, _, _, _, _, _, _, _, _, _, _, _, _]) dM_entriesWith_2 fM_45 (by first | exact z2_a | exact z2_1) (by rfl) (by rfl) (by exact Nat.le_of_ble_eq_true rfl) (by rfl) ?_
    rw [z2_O]
    refine zs_iload_n (pc := 5) dM_entriesWith_5 rfl ?_
    refine zs_i2l (pc := 6) dM_entriesWith_6 ?_
    refine zs_lconst (pc := 7) (v := 0) dM_entriesWith_7 (by decide) ?_
    refine zs_ldc2 (pc := 8) (v := 999) dM_entriesWith_8 (zt6 (i := 149) rfl) ?_
    refine zcS1_3 (pc := 11) (d2 := d - 1) (s_M_inV_n hl (by decide) (by decide) hv) dM_entriesWith_11 kM_55 mdM_in msM_in rfl (Nat.le_of_ble_eq_true rfl) (by omega) (by omega) (by omega) ?_
    refine zs_if_eq (pc := 14) 25 dM_entriesWith_14 rfl (fun _ => ?_) (fun h9 => absurd h9 (by decide))
    refine zs_aload_n (pc := 25) dM_entriesWith_25 rfl ?_
    refine zs_iconst (pc := 26) dM_entriesWith_26 zi_1 ?_
    refine zcV1_1 (pc := 27) (d2 := d - 1) (s_M_throwing hl) dM_entriesWith_27 kM_90 mdM_throwing miM_throwing mvM_throwing rfl (by exact z2_a) rfl (Nat.le_of_ble_eq_true rfl) (by omega) (by omega) (by omega) ?_
    exact zs_iret (pc := 30) dM_entriesWith_30 rfl rfl (by omega) (by omega) (⟨rfl, rfl, rfl⟩)
theorem s_M_sharedCodes {Γ : zG} {l : Launch} (hl : l.stackTraces = false) {d : Nat} (hd : 4 ≤ d) {h : zH} {n a : Nat} {g : Nat → Nat} {s3 s5 s6 s7 s8 s10 s12 s16 s17 s18 s19 s20 : Int32} {B : Nat} (hI : IG B g) (y z : Int32) : zC Γ l d mM_sharedCodes [.ref a, .int y, .int z] (z2 h a (zAr 0 246 (g)) (zMo a s3 s5 s6 s7 s8 s10 s12 s16 s17 s18 s19 s20)) n 0 0 (zR (some (.int (aShare g y z).2)) (z2 h a (zAr 0 246 (g)) (zMo a s3 s5 s6 s7 (nI (aShare g y z).1) s10 s12 s16 s17 s18 s19 s20)) n) := by
  have i0 := hI.1
  unfold aShare
  refine zC_of (ls := [some (.ref a), some (.int y), some (.int z)]) hl (by decide +kernel) rfl (Nat.le_of_ble_eq_true rfl) rfl ?_
  cases hH : zHas g y with
  | false =>
    rw [if_neg (by rintro ⟨q, -⟩; cases q)]
    refine zs_aload_n (pc := 0) dM_sharedCodes_0 rfl ?_
    refine zs_iconst (pc := 1) dM_sharedCodes_1 zi_0 ?_
    refine zs_put (pc := 2) (fs2 := [_, _, _, _, _, _, _, _, _, _, _, _, _, _, _, _, _, _, _, _, _]) dM_sharedCodes_2 fM_45 (by first | exact z2_a | exact z2_1) (by rfl) (by rfl) (by exact Nat.le_of_ble_eq_true rfl) (by rfl) ?_
    rw [z2_O]
    refine zs_aload_n (pc := 5) dM_sharedCodes_5 rfl ?_
    refine zs_iload_n (pc := 6) dM_sharedCodes_6 rfl ?_
    refine zcV1_1 (pc := 7) (d2 := d - 1) (s_M_find_n hl (by omega) i0 hH) dM_sharedCodes_7 kM_102 mdM_find miM_find mvM_find rfl (by exact z2_a) rfl (Nat.le_of_ble_eq_true rfl) (by omega) (by omega) (by omega) ?_
    refine zs_iconst (pc := 10) dM_sharedCodes_10 zi_m1 ?_
    refine zs_icmp_eq (pc := 11) 23 dM_sharedCodes_11 rfl (fun _ => ?_) (fun h9 => absurd h9 (fun q => q rfl))
    refine zs_aload_n (pc := 23) dM_sharedCodes_23 rfl ?_
    refine zs_iconst (pc := 24) dM_sharedCodes_24 zi_1 ?_
    refine zcV1_1 (pc := 25) (d2 := d - 1) (s_M_throwing hl) dM_sharedCodes_25 kM_90 mdM_throwing miM_throwing mvM_throwing rfl (by exact z2_a) rfl (Nat.le_of_ble_eq_true rfl) (by omega) (by omega) (by omega) ?_
    refine zs_goto (pc := 28) 45 dM_sharedCodes_28 rfl ?_
    exact zs_iret (pc := 45) dM_sharedCodes_45 rfl rfl (by omega) (by omega) (⟨rfl, rfl, rfl⟩)
  | true =>
    obtain ⟨f1, f2, f3⟩ := zHas_y hH
    cases hH2 : zHas g z with
    | false =>
      rw [if_neg (by rintro ⟨-, q⟩; cases q)]
      refine zs_aload_n (pc := 0) dM_sharedCodes_0 rfl ?_
      refine zs_iconst (pc := 1) dM_sharedCodes_1 zi_0 ?_
      refine zs_put (pc := 2) (fs2 := [_, _, _, _, _, _, _, _, _, _, _, _, _, _, _, _, _, _, _, _, _]) dM_sharedCodes_2 fM_45 (by first | exact z2_a | exact z2_1) (by rfl) (by rfl) (by exact Nat.le_of_ble_eq_true rfl) (by rfl) ?_
      rw [z2_O]
      refine zs_aload_n (pc := 5) dM_sharedCodes_5 rfl ?_
      refine zs_iload_n (pc := 6) dM_sharedCodes_6 rfl ?_
      refine zcV1_1 (pc := 7) (d2 := d - 1) (s_M_find_y hl (by omega) i0 f1 f2 f3) dM_sharedCodes_7 kM_102 mdM_find miM_find mvM_find rfl (by exact z2_a) rfl (Nat.le_of_ble_eq_true rfl) (by omega) (by omega) (by omega) ?_
      refine zs_iconst (pc := 10) dM_sharedCodes_10 zi_m1 ?_
      refine zs_icmp_eq (pc := 11) 23 dM_sharedCodes_11 rfl (fun h9 => absurd h9 (nI_kn (by omega))) (fun _ => ?_)
      refine zs_aload_n (pc := 14) dM_sharedCodes_14 rfl ?_
      refine zs_iload_n (pc := 15) dM_sharedCodes_15 rfl ?_
      refine zcV1_1 (pc := 16) (d2 := d - 1) (s_M_find_n hl (by omega) i0 hH2) dM_sharedCodes_16 kM_102 mdM_find miM_find mvM_find rfl (by exact z2_a) rfl (Nat.le_of_ble_eq_true rfl) (by omega) (by omega) (by omega) ?_
      refine zs_iconst (pc := 19) dM_sharedCodes_19 zi_m1 ?_
      refine zs_icmp_ne (pc := 20) 31 dM_sharedCodes_20 rfl (fun h9 => absurd h9 (fun q => q rfl)) (fun _ => ?_)
      refine zs_aload_n (pc := 23) dM_sharedCodes_23 rfl ?_
      refine zs_iconst (pc := 24) dM_sharedCodes_24 zi_1 ?_
      refine zcV1_1 (pc := 25) (d2 := d - 1) (s_M_throwing hl) dM_sharedCodes_25 kM_90 mdM_throwing miM_throwing mvM_throwing rfl (by exact z2_a) rfl (Nat.le_of_ble_eq_true rfl) (by omega) (by omega) (by omega) ?_
      refine zs_goto (pc := 28) 45 dM_sharedCodes_28 rfl ?_
      exact zs_iret (pc := 45) dM_sharedCodes_45 rfl rfl (by omega) (by omega) (⟨rfl, rfl, rfl⟩)
    | true =>
      rw [if_pos ⟨rfl, rfl⟩]
      obtain ⟨k1, k2, k3⟩ := zHas_y hH2
      generalize zAt g y = k at f1 f2 f3 ⊢
      generalize zAt g z = t at k1 k2 k3 ⊢
      refine zs_aload_n (pc := 0) dM_sharedCodes_0 rfl ?_
      refine zs_iconst (pc := 1) dM_sharedCodes_1 zi_0 ?_
      refine zs_put (pc := 2) (fs2 := [_, _, _, _, _, _, _, _, _, _, _, _, _, _, _, _, _, _, _, _, _]) dM_sharedCodes_2 fM_45 (by first | exact z2_a | exact z2_1) (by rfl) (by rfl) (by exact Nat.le_of_ble_eq_true rfl) (by rfl) ?_
      rw [z2_O]
      refine zs_aload_n (pc := 5) dM_sharedCodes_5 rfl ?_
      refine zs_iload_n (pc := 6) dM_sharedCodes_6 rfl ?_
      refine zcV1_1 (pc := 7) (d2 := d - 1) (s_M_find_y hl (by omega) i0 f1 f2 f3) dM_sharedCodes_7 kM_102 mdM_find miM_find mvM_find rfl (by exact z2_a) rfl (Nat.le_of_ble_eq_true rfl) (by omega) (by omega) (by omega) ?_
      refine zs_iconst (pc := 10) dM_sharedCodes_10 zi_m1 ?_
      refine zs_icmp_eq (pc := 11) 23 dM_sharedCodes_11 rfl (fun h9 => absurd h9 (nI_kn (by omega))) (fun _ => ?_)
      refine zs_aload_n (pc := 14) dM_sharedCodes_14 rfl ?_
      refine zs_iload_n (pc := 15) dM_sharedCodes_15 rfl ?_
      refine zcV1_1 (pc := 16) (d2 := d - 1) (s_M_find_y hl (by omega) i0 k1 k2 k3) dM_sharedCodes_16 kM_102 mdM_find miM_find mvM_find rfl (by exact z2_a) rfl (Nat.le_of_ble_eq_true rfl) (by omega) (by omega) (by omega) ?_
      refine zs_iconst (pc := 19) dM_sharedCodes_19 zi_m1 ?_
      refine zs_icmp_ne (pc := 20) 31 dM_sharedCodes_20 rfl (fun _ => ?_) (fun h9 => absurd h9 (nI_kn (by omega)))
      refine zs_aload_n (pc := 31) dM_sharedCodes_31 rfl ?_
      refine zs_aload_n (pc := 32) dM_sharedCodes_32 rfl ?_
      refine zs_iload_n (pc := 33) dM_sharedCodes_33 rfl ?_
      refine zcV1_1 (pc := 34) (d2 := d - 1) (s_M_find_y hl (by omega) i0 f1 f2 f3) dM_sharedCodes_34 kM_102 mdM_find miM_find mvM_find rfl (by exact z2_a) rfl (Nat.le_of_ble_eq_true rfl) (by omega) (by omega) (by omega) ?_
      refine zs_aload_n (pc := 37) dM_sharedCodes_37 rfl ?_
      refine zs_iload_n (pc := 38) dM_sharedCodes_38 rfl ?_
      refine zcV1_1 (pc := 39) (d2 := d - 1) (s_M_find_y hl (by omega) i0 k1 k2 k3) dM_sharedCodes_39 kM_102 mdM_find miM_find mvM_find rfl (by exact z2_a) rfl (Nat.le_of_ble_eq_true rfl) (by omega) (by omega) (by omega) ?_
      refine zcV1_2 (pc := 42) (d2 := d - 1) (s_M_common hl (by omega) hI f1 k1) dM_sharedCodes_42 kM_127 mdM_common miM_common mvM_common rfl (by exact z2_a) rfl (Nat.le_of_ble_eq_true rfl) (by omega) (by omega) (by omega) ?_
      exact zs_iret (pc := 45) dM_sharedCodes_45 rfl rfl (by omega) (by omega) (⟨rfl, rfl, rfl⟩)
theorem s_M_isConsistent {Γ : zG} {l : Launch} (hl : l.stackTraces = false) {d : Nat} {h : zH} {n a : Nat} {g : Nat → Nat} {s3 s5 s6 s7 s8 s10 s12 s16 s17 s18 s19 s20 : Int32} : zC Γ l d mM_isConsistent [.ref a] (z2 h a (zAr 0 246 (g)) (zMo a s3 s5 s6 s7 s8 s10 s12 s16 s17 s18 s19 s20)) n 0 0 (zR (some (.int (nI 1))) (z2 h a (zAr 0 246 (g)) (zMo a s3 s5 s6 s7 (nI 0) s10 s12 s16 s17 s18 s19 s20)) n) := by
  refine zC_of (ls := [some (.ref a)]) hl (by decide +kernel) rfl (Nat.le_of_ble_eq_true rfl) rfl ?_
  refine zs_aload_n (pc := 0) dM_isConsistent_0 rfl ?_
  refine zs_iconst (pc := 1) dM_isConsistent_1 zi_0 ?_
  refine zs_put (pc := 2) (fs2 := [_, _, _, _, _, _, _, _, _, _, _, _, _, _, _, _, _, _, _, _, _]) dM_isConsistent_2 fM_45 (by first | exact z2_a | exact z2_1) (by rfl) (by rfl) (by exact Nat.le_of_ble_eq_true rfl) (by rfl) ?_
  rw [z2_O]
  refine zs_iconst (pc := 5) dM_isConsistent_5 zi_1 ?_
  exact zs_iret (pc := 6) dM_isConsistent_6 rfl rfl (by omega) (by omega) (⟨rfl, rfl, rfl⟩)

