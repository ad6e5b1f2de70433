/-! the words' characters -/
def zwords : List (List Nat) := [[101, 110, 116, 114, 121], [99, 111, 100, 101], [117, 110, 99, 111, 100, 101], [100, 114, 111, 112], [116, 111, 117, 99, 104], [109, 101, 114, 103, 101], [115, 101, 103, 109, 101, 110, 116], [106, 111, 105, 110], [102, 105, 110, 100], [100, 97, 121, 115]]
def zwl (i : Nat) : Nat := (zwords.getD i []).length
def zwc (i x : Nat) : Nat := (zwords.getD i []).getD x 0
theorem zwl_ok : ∀ i, i < 10 → zWl.getD i 0 = zwl i ∧ 4 ≤ zwl i ∧ zwl i ≤ 7 := by decide
theorem zwc_ok : ∀ i, i < 10 → ∀ x, x < zwl i → ((((zWb.getD i []).getD x 0) &&& 255).toUInt32 % 65536).toInt32 = nI (zwc i x) := by decide +kernel
theorem zwc_lt : ∀ i, i < 10 → ∀ x, x < zwl i → zwc i x < 128 := by decide +kernel
theorem zshr_ok : ∀ m, m < 8 → nI m >>> ((0 : Int32) &&& 31) = nI m := by decide +kernel
theorem s_S_coder {Γ : zG} {l : Launch} (hl : l.stackTraces = false) {d : Nat} {h : zH} {n : Nat} {i : Nat} (hi : i < 10) : zC Γ l d mS_coder [.ref (zgK Γ i)] h n 0 0 (zR (some (.int 0)) h n) := by
  refine zC_of (ls := [some (.ref (zgK Γ i))]) hl (by decide +kernel) rfl (Nat.le_of_ble_eq_true rfl) rfl ?_
  refine zs_getcs (pc := 0) dS_coder_0 rfl ?_
  refine zs_if_eq (pc := 3) 13 dS_coder_3 rfl (fun h9 => absurd h9 (by decide)) (fun _ => ?_)
  refine zs_aload_n (pc := 6) dS_coder_6 rfl ?_
  refine zs_getcod (pc := 7) hi dS_coder_7 rfl ?_
  refine zs_goto (pc := 10) 14 dS_coder_10 rfl ?_
  exact zs_iret (pc := 14) dS_coder_14 rfl rfl (by omega) (by omega) (⟨rfl, rfl, rfl⟩)
theorem s_S_isLatin1 {Γ : zG} {l : Launch} (hl : l.stackTraces = false) {d : Nat} {h : zH} {n : Nat} {i : Nat} (hi : i < 10) : zC Γ l d mS_isLatin1 [.ref (zgK Γ i)] h n 0 0 (zR (some (.int 1)) h n) := by
  refine zC_of (ls := [some (.ref (zgK Γ i))]) hl (by decide +kernel) rfl (Nat.le_of_ble_eq_true rfl) rfl ?_
  refine zs_getcs (pc := 0) dS_isLatin1_0 rfl ?_
  refine zs_if_eq (pc := 3) 17 dS_isLatin1_3 rfl (fun h9 => absurd h9 (by decide)) (fun _ => ?_)
  refine zs_aload_n (pc := 6) dS_isLatin1_6 rfl ?_
  refine zs_getcod (pc := 7) hi dS_isLatin1_7 rfl ?_
  refine zs_if_ne (pc := 10) 17 dS_isLatin1_10 rfl (fun h9 => absurd h9 (by decide)) (fun _ => ?_)
  refine zs_iconst (pc := 13) dS_isLatin1_13 zi_1 ?_
  refine zs_goto (pc := 14) 18 dS_isLatin1_14 rfl ?_
  exact zs_iret (pc := 18) dS_isLatin1_18 rfl rfl (by omega) (by omega) (⟨rfl, rfl, rfl⟩)
theorem s_S_length {Γ : zG} {l : Launch} (hl : l.stackTraces = false) {d : Nat} (hd : 1 ≤ d) {h : zH} {n : Nat} {i : Nat} (hi : i < 10) : zC Γ l d mS_length [.ref (zgK Γ i)] h n 0 0 (zR (some (.int (nI (zwl i)))) h n) := by
  obtain ⟨e1, e2, e3⟩ := zwl_ok i hi
  refine zC_of (ls := [some (.ref (zgK Γ i))]) hl (by decide +kernel) rfl (Nat.le_of_ble_eq_true rfl) rfl ?_
  refine zs_aload_n (pc := 0) dS_length_0 rfl ?_
  refine zs_getval (pc := 1) hi dS_length_1 rfl ?_
  refine zs_wlen (pc := 4) hi dS_length_4 ?_
  refine zs_aload_n (pc := 5) dS_length_5 rfl ?_
  refine zcVK1_0 (pc := 6) (d2 := d - 1) (s_S_coder hl hi) dS_length_6 kS_335 mdS_coder miS_coder mvS_coder rfl (by omega) rfl (Nat.le_of_ble_eq_true rfl) (by omega) (by omega) (by omega) ?_
  refine zs_ishr (pc := 9) dS_length_9 ?_
  rw [zshr_ok _ (by omega), e1]
  exact zs_iret (pc := 10) dS_length_10 rfl rfl (by omega) (by omega) (⟨rfl, rfl, rfl⟩)
theorem s_K_checkIndex {Γ : zG} {l : Launch} (hl : l.stackTraces = false) {d : Nat} {h : zH} {n : Nat} {x m : Nat} (hx : x < m) (hm : m < 2 ^ 31) {v : Value} (hv : v = .null ∨ ∃ t, v = .ref t) : zC Γ l d mK_checkIndex [.int (nI x), .int (nI m), v] h n 0 0 (zR (some (.int (nI x))) h n) := by
  rcases hv with rfl | ⟨t, rfl⟩
  · refine zC_of (ls := [some (.int (nI x)), some (.int (nI m)), some (.null)]) hl (by decide +kernel) rfl (Nat.le_of_ble_eq_true rfl) rfl ?_
    refine zs_iload_n (pc := 0) dK_checkIndex_0 rfl ?_
    refine zs_if_lt (pc := 1) 9 dK_checkIndex_1 rfl (fun h9 => absurd h9 (nI_pos (by omega))) (fun _ => ?_)
    refine zs_iload_n (pc := 4) dK_checkIndex_4 rfl ?_
    refine zs_iload_n (pc := 5) dK_checkIndex_5 rfl ?_
    refine zn_icmp_lt (pc := 6) 16 dK_checkIndex_6 rfl (by omega) (by omega) (fun _ => ?_) (fun h9 => absurd h9 (by omega))
    refine zs_iload_n (pc := 16) dK_checkIndex_16 rfl ?_
    exact zs_iret (pc := 17) dK_checkIndex_17 rfl rfl (by omega) (by omega) (⟨rfl, rfl, rfl⟩)
  · refine zC_of (ls := [some (.int (nI x)), some (.int (nI m)), some (.ref t)]) hl (by decide +kernel) rfl (Nat.le_of_ble_eq_true rfl) rfl ?_
    refine zs_iload_n (pc := 0) dK_checkIndex_0 rfl ?_
    refine zs_if_lt (pc := 1) 9 dK_checkIndex_1 rfl (fun h9 => absurd h9 (nI_pos (by omega))) (fun _ => ?_)
    refine zs_iload_n (pc := 4) dK_checkIndex_4 rfl ?_
    refine zs_iload_n (pc := 5) dK_checkIndex_5 rfl ?_
    refine zn_icmp_lt (pc := 6) 16 dK_checkIndex_6 rfl (by omega) (by omega) (fun _ => ?_) (fun h9 => absurd h9 (by omega))
    refine zs_iload_n (pc := 16) dK_checkIndex_16 rfl ?_
    exact zs_iret (pc := 17) dK_checkIndex_17 rfl rfl (by omega) (by omega) (⟨rfl, rfl, rfl⟩)
theorem s_S_checkIndex {Γ : zG} {l : Launch} (hl : l.stackTraces = false) {d : Nat} (hd : 1 ≤ d) {h : zH} {n : Nat} {x m : Nat} (hx : x < m) (hm : m < 2 ^ 31) : zC Γ l d mS_checkIndex [.int (nI x), .int (nI m)] h n 0 0 (zR none h n) := by
  refine zC_of (ls := [some (.int (nI x)), some (.int (nI m))]) hl (by decide +kernel) rfl (Nat.le_of_ble_eq_true rfl) rfl ?_
  refine zs_iload_n (pc := 0) dS_checkIndex_0 rfl ?_
  refine zs_iload_n (pc := 1) dS_checkIndex_1 rfl ?_
  refine zs_getsio (pc := 2) dS_checkIndex_2 rfl (fun v hv => ?_)
  refine zcS1_3 (pc := 5) (d2 := d - 1) (s_K_checkIndex hl hx hm hv) dS_checkIndex_5 kS_1059 mdK_checkIndex msK_checkIndex rfl (Nat.le_of_ble_eq_true rfl) (by omega) (by omega) (by omega) ?_
  refine zs_pop (pc := 8) dS_checkIndex_8 rfl ?_
  exact zs_vret (pc := 9) dS_checkIndex_9 rfl (by omega) (by omega) (⟨rfl, rfl, rfl⟩)
theorem s_Q_charAt {Γ : zG} {l : Launch} (hl : l.stackTraces = false) {d : Nat} (hd : 2 ≤ d) {h : zH} {n : Nat} {i x : Nat} (hi : i < 10) (hx : x < zwl i) : zC Γ l d mQ_charAt [.ref (zgV Γ i), .int (nI x)] h n 0 0 (zR (some (.int (nI (zwc i x)))) h n) := by
  obtain ⟨e1, e2, e3⟩ := zwl_ok i hi
  have e4 := zwc_lt i hi x hx
  refine zC_of (ls := [some (.ref (zgV Γ i)), some (.int (nI x))]) hl (by decide +kernel) rfl (Nat.le_of_ble_eq_true rfl) rfl ?_
  refine zs_iload_n (pc := 0) dQ_charAt_0 rfl ?_
  refine zs_aload_n (pc := 1) dQ_charAt_1 rfl ?_
  refine zs_wlen (pc := 2) hi dQ_charAt_2 ?_
  rw [e1]
  refine zcS0_2 (pc := 3) (d2 := d - 1) (s_S_checkIndex hl (by omega) hx (by omega)) dQ_charAt_3 kQ_9 mdS_checkIndex msS_checkIndex rfl (Nat.le_of_ble_eq_true rfl) (by omega) (by omega) (by omega) ?_
  refine zs_aload_n (pc := 6) dQ_charAt_6 rfl ?_
  refine zs_iload_n (pc := 7) dQ_charAt_7 rfl ?_
  refine zs_wbald (pc := 8) hi dQ_charAt_8 (by rw [e1]; exact vp_in_nI hx (by omega)) ?_
  rw [nI_clamp (by omega)]
  refine zs_sipush (pc := 9) dQ_charAt_9 (zi_s 255 (by decide)) ?_
  refine zs_iand (pc := 12) dQ_charAt_12 ?_
  refine zs_i2c (pc := 13) dQ_charAt_13 ?_
  rw [show (nI 255 : Int32) = 255 from rfl, zwc_ok i hi x hx]
  exact zs_iret (pc := 14) dQ_charAt_14 rfl (pk_charN (by omega)).1 (by omega) (by omega) (⟨rfl, rfl, rfl⟩)
theorem s_S_charAt {Γ : zG} {l : Launch} (hl : l.stackTraces = false) {d : Nat} (hd : 3 ≤ d) {h : zH} {n : Nat} {i x : Nat} (hi : i < 10) (hx : x < zwl i) : zC Γ l d mS_charAt [.ref (zgK Γ i), .int (nI x)] h n 0 0 (zR (some (.int (nI (zwc i x)))) h n) := by
  have e4 := zwc_lt i hi x hx
  refine zC_of (ls := [some (.ref (zgK Γ i)), some (.int (nI x))]) hl (by decide +kernel) rfl (Nat.le_of_ble_eq_true rfl) rfl ?_
  refine zs_aload_n (pc := 0) dS_charAt_0 rfl ?_
  refine zcVK1_0 (pc := 1) (d2 := d - 1) (s_S_isLatin1 hl hi) dS_charAt_1 kS_492 mdS_isLatin1 miS_isLatin1 mvS_isLatin1 rfl (by omega) rfl (Nat.le_of_ble_eq_true rfl) (by omega) (by omega) (by omega) ?_
  refine zs_if_eq (pc := 4) 16 dS_charAt_4 rfl (fun h9 => absurd h9 (by decide)) (fun _ => ?_)
  refine zs_aload_n (pc := 7) dS_charAt_7 rfl ?_
  refine zs_getval (pc := 8) hi dS_charAt_8 rfl ?_
  refine zs_iload_n (pc := 11) dS_charAt_11 rfl ?_
  refine zcS1_2 (pc := 12) (d2 := d - 1) (s_Q_charAt hl (by omega) hi hx) dS_charAt_12 kS_495 mdQ_charAt msQ_charAt rfl (Nat.le_of_ble_eq_true rfl) (by omega) (by omega) (by omega) ?_
  exact zs_iret (pc := 15) dS_charAt_15 rfl (pk_charN (by omega)).1 (by omega) (by omega) (⟨rfl, rfl, rfl⟩)
theorem s_P_wordOf {Γ : zG} {l : Launch} (hl : l.stackTraces = false) {d : Nat} {h : zH} {n : Nat} {k : Nat} (hk : k < 10) : zC Γ l d mP_wordOf [.int (nI k)] h n 0 0 (zR (some (.ref (zgK Γ k))) h n) := by
  refine zC_of (ls := [some (.int (nI k))]) hl (by decide +kernel) rfl (Nat.le_of_ble_eq_true rfl) rfl ?_
  match k, hk with
  | 0, _ =>
    refine zs_iload_n (pc := 0) dP_wordOf_0 rfl ?_
    refine zs_tableIn (pc := 1) (off := 51) 52 dP_wordOf_1 (by decide) (by decide) (by decide) rfl ?_
    refine zs_ldcw (pc := 52) 0 (by decide) dP_wordOf_52 rfl rfl ?_
    exact zs_aret (pc := 54) dP_wordOf_54 rfl (by first | exact Or.inl rfl | exact Or.inr ⟨_, rfl⟩) (by omega) (by omega) (⟨rfl, rfl, rfl⟩)
  | 1, _ =>
    refine zs_iload_n (pc := 0) dP_wordOf_0 rfl ?_
    refine zs_tableIn (pc := 1) (off := 54) 55 dP_wordOf_1 (by decide) (by decide) (by decide) rfl ?_
    refine zs_ldcw (pc := 55) 1 (by decide) dP_wordOf_55 rfl rfl ?_
    exact zs_aret (pc := 57) dP_wordOf_57 rfl (by first | exact Or.inl rfl | exact Or.inr ⟨_, rfl⟩) (by omega) (by omega) (⟨rfl, rfl, rfl⟩)
  | 2, _ =>
    refine zs_iload_n (pc := 0) dP_wordOf_0 rfl ?_
    refine zs_tableIn (pc := 1) (off := 57) 58 dP_wordOf_1 (by decide) (by decide) (by decide) rfl ?_
    refine zs_ldcw (pc := 58) 2 (by decide) dP_wordOf_58 rfl rfl ?_
    exact zs_aret (pc := 60) dP_wordOf_60 rfl (by first | exact Or.inl rfl | exact Or.inr ⟨_, rfl⟩) (by omega) (by omega) (⟨rfl, rfl, rfl⟩)
  | 3, _ =>
    refine zs_iload_n (pc := 0) dP_wordOf_0 rfl ?_
    refine zs_tableIn (pc := 1) (off := 60) 61 dP_wordOf_1 (by decide) (by decide) (by decide) rfl ?_
    refine zs_ldcw (pc := 61) 3 (by decide) dP_wordOf_61 rfl rfl ?_
    exact zs_aret (pc := 63) dP_wordOf_63 rfl (by first | exact Or.inl rfl | exact Or.inr ⟨_, rfl⟩) (by omega) (by omega) (⟨rfl, rfl, rfl⟩)
  | 4, _ =>
    refine zs_iload_n (pc := 0) dP_wordOf_0 rfl ?_
    refine zs_tableIn (pc := 1) (off := 63) 64 dP_wordOf_1 (by decide) (by decide) (by decide) rfl ?_
    refine zs_ldcw (pc := 64) 4 (by decide) dP_wordOf_64 rfl rfl ?_
    exact zs_aret (pc := 66) dP_wordOf_66 rfl (by first | exact Or.inl rfl | exact Or.inr ⟨_, rfl⟩) (by omega) (by omega) (⟨rfl, rfl, rfl⟩)
  | 5, _ =>
    refine zs_iload_n (pc := 0) dP_wordOf_0 rfl ?_
    refine zs_tableIn (pc := 1) (off := 66) 67 dP_wordOf_1 (by decide) (by decide) (by decide) rfl ?_
    refine zs_ldcw (pc := 67) 5 (by decide) dP_wordOf_67 rfl rfl ?_
    exact zs_aret (pc := 69) dP_wordOf_69 rfl (by first | exact Or.inl rfl | exact Or.inr ⟨_, rfl⟩) (by omega) (by omega) (⟨rfl, rfl, rfl⟩)
  | 6, _ =>
    refine zs_iload_n (pc := 0) dP_wordOf_0 rfl ?_
    refine zs_tableIn (pc := 1) (off := 69) 70 dP_wordOf_1 (by decide) (by decide) (by decide) rfl ?_
    refine zs_ldcw (pc := 70) 6 (by decide) dP_wordOf_70 rfl rfl ?_
    exact zs_aret (pc := 72) dP_wordOf_72 rfl (by first | exact Or.inl rfl | exact Or.inr ⟨_, rfl⟩) (by omega) (by omega) (⟨rfl, rfl, rfl⟩)
  | 7, _ =>
    refine zs_iload_n (pc := 0) dP_wordOf_0 rfl ?_
    refine zs_tableIn (pc := 1) (off := 72) 73 dP_wordOf_1 (by decide) (by decide) (by decide) rfl ?_
    refine zs_ldcw (pc := 73) 7 (by decide) dP_wordOf_73 rfl rfl ?_
    exact zs_aret (pc := 75) dP_wordOf_75 rfl (by first | exact Or.inl rfl | exact Or.inr ⟨_, rfl⟩) (by omega) (by omega) (⟨rfl, rfl, rfl⟩)
  | 8, _ =>
    refine zs_iload_n (pc := 0) dP_wordOf_0 rfl ?_
    refine zs_tableIn (pc := 1) (off := 75) 76 dP_wordOf_1 (by decide) (by decide) (by decide) rfl ?_
    refine zs_ldcw (pc := 76) 8 (by decide) dP_wordOf_76 rfl rfl ?_
    exact zs_aret (pc := 78) dP_wordOf_78 rfl (by first | exact Or.inl rfl | exact Or.inr ⟨_, rfl⟩) (by omega) (by omega) (⟨rfl, rfl, rfl⟩)
  | 9, _ =>
    refine zs_iload_n (pc := 0) dP_wordOf_0 rfl ?_
    refine zs_tableOut (pc := 1) 79 dP_wordOf_1 (by decide) rfl ?_
    refine zs_ldcw (pc := 79) 9 (by decide) dP_wordOf_79 rfl rfl ?_
    exact zs_aret (pc := 81) dP_wordOf_81 rfl (by first | exact Or.inl rfl | exact Or.inr ⟨_, rfl⟩) (by omega) (by omega) (⟨rfl, rfl, rfl⟩)
  | k + 10, hk => exact absurd hk (by omega)

