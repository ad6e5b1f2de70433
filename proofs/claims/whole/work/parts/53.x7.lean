/-! questions with valid arguments: nothing is made -/
def zXy (x : Nat) (h : zH) (n : Nat) (v : Nat) (R : zH → Prop) : zQ := fun o h1 n1 => o = .inl (some (.int (nI v))) ∧ n1 = n ∧ zfx x h h1 ∧ R h1
theorem zPv_of {dn v : Nat} (h1 : dn ≤ 3) (h2 : v < 10 ^ dn) : zPf (nI dn) (nI v) dn v := ⟨rfl, rfl, h1, h2⟩
theorem y_X_resultCount {Γ : zG} {l : Launch} (hl : l.stackTraces = false) {d : Nat} (hd : 4 ≤ d) {h : zH} {n : Nat} {B x c np : Nat} {g T : Nat → Nat} {P : Nat → Nat → Nat} {sv : Option (Nat → Nat)} {er fl : Option Nat} {L : List Nat} (hX : XR B h x g P c sv er fl T np L) (hB : B < 2 ^ 20) {dn v : Nat} (q1 : dn ≤ 3) (q2 : v < 10 ^ dn) : zC Γ l d mX_resultCount [.ref x, .int (nI dn), .int (nI v)] h n 0 0 (zXy x h n (zres g dn v) (fun h1 => XR B h1 x g P c sv er fl T np L)) := by
  have hX9 := hX; obtain ⟨⟨st, hst, hx, htr⟩, hR, hI, hsv, hH, hrk, hpg, hn60, hTc, hL, hag⟩ := hX; have i0 := hI.1
  refine zC_of (ls := [some (.ref x), some (.int (nI dn)), some (.int (nI v))]) hl (by decide +kernel) rfl (Nat.le_of_ble_eq_true rfl) rfl ?_
  refine zs_iload_n (pc := 0) dX_resultCount_0 rfl ?_
  refine zs_iload_n (pc := 1) dX_resultCount_1 rfl ?_
  refine zcS0_2 (pc := 2) (d2 := d - 1) (s_X_requirePrefix_y hl (by omega) (zPv_of q1 q2)) dX_resultCount_2 kX_161 mdX_requirePrefix msX_requirePrefix rfl (Nat.le_of_ble_eq_true rfl) (by omega) (by omega) (by omega) ?_
  refine zs_aload_n (pc := 5) dX_resultCount_5 rfl ?_
  refine zcVQ_0 (pc := 6) (d2 := d - 1) (s_X_freshTrie hl (by omega) hX9 hB) dX_resultCount_6 kX_175 mdX_freshTrie miX_freshTrie mvX_freshTrie rfl (by first | exact hx | exact hT9.1) rfl (Nat.le_of_ble_eq_true rfl) (by omega) (by omega) (by omega) (fun v h1 n1 hq => ?_) (fun E h1 n1 hq => absurd hq.1 (by intro q; cases q))
  obtain ⟨hv9, rfl, hf9, hX8, hT9⟩ := hq
  obtain rfl := Sum.inl.inj hv9
  refine zs_iload_n (pc := 9) dX_resultCount_9 rfl ?_
  refine zs_iload_n (pc := 10) dX_resultCount_10 rfl ?_
  refine zcS1_2 (pc := 11) (d2 := d - 1) (s_T_nodeOf hl (by omega) q1 q2) dX_resultCount_11 kX_179 mdT_nodeOf msT_nodeOf rfl (Nat.le_of_ble_eq_true rfl) (by omega) (by omega) (by omega) ?_
  refine zcV1_1 (pc := 14) (d2 := d - 1) (s_T_entriesAt hl hT9 (ztn_lt q1 q2)) dX_resultCount_14 kX_182 mdT_entriesAt miT_entriesAt mvT_entriesAt rfl (by first | exact hx | exact hT9.1) rfl (Nat.le_of_ble_eq_true rfl) (by omega) (by omega) (by omega) ?_
  rw [zE_res hI q1 q2]
  exact zs_iret (pc := 17) dX_resultCount_17 rfl rfl (by omega) (by omega) (⟨rfl, rfl, hf9, hX8⟩)
theorem y_X_sharedDigits {Γ : zG} {l : Launch} (hl : l.stackTraces = false) {d : Nat} (hd : 4 ≤ d) {h : zH} {n : Nat} {B x c np : Nat} {g T : Nat → Nat} {P : Nat → Nat → Nat} {sv : Option (Nat → Nat)} {er fl : Option Nat} {L : List Nat} (hX : XR B h x g P c sv er fl T np L) (hB : B < 2 ^ 20) {w : Nat} (hw : w < 1000) : zC Γ l d mX_sharedDigits [.ref x, .int (nI w)] h n 0 0 (zXy x h n (zdep g w) (fun h1 => XR B h1 x g P c sv er fl T np L)) := by
  have hX9 := hX; obtain ⟨⟨st, hst, hx, htr⟩, hR, hI, hsv, hH, hrk, hpg, hn60, hTc, hL, hag⟩ := hX; have i0 := hI.1
  refine zC_of (ls := [some (.ref x), some (.int (nI w))]) hl (by decide +kernel) rfl (Nat.le_of_ble_eq_true rfl) rfl ?_
  refine zs_iload_n (pc := 0) dX_sharedDigits_0 rfl ?_
  refine zcS0_1 (pc := 1) (d2 := d - 1) (s_X_requireCode_y hl (by omega) hw) dX_sharedDigits_1 kX_154 mdX_requireCode msX_requireCode rfl (Nat.le_of_ble_eq_true rfl) (by omega) (by omega) (by omega) ?_
  refine zs_aload_n (pc := 4) dX_sharedDigits_4 rfl ?_
  refine zcVQ_0 (pc := 5) (d2 := d - 1) (s_X_freshTrie hl (by omega) hX9 hB) dX_sharedDigits_5 kX_175 mdX_freshTrie miX_freshTrie mvX_freshTrie rfl (by first | exact hx | exact hT9.1) rfl (Nat.le_of_ble_eq_true rfl) (by omega) (by omega) (by omega) (fun v h1 n1 hq => ?_) (fun E h1 n1 hq => absurd hq.1 (by intro q; cases q))
  obtain ⟨hv9, rfl, hf9, hX8, hT9⟩ := hq
  obtain rfl := Sum.inl.inj hv9
  refine zs_iload_n (pc := 8) dX_sharedDigits_8 rfl ?_
  refine zcV1_1 (pc := 9) (d2 := d - 1) (s_T_depthReachedBy hl (by omega) hT9 hw (fun q => Nat.lt_of_le_of_lt zCj_le (by decide))) dX_sharedDigits_9 kX_207 mdT_depthReachedBy miT_depthReachedBy mvT_depthReachedBy rfl (by first | exact hx | exact hT9.1) rfl (Nat.le_of_ble_eq_true rfl) (by omega) (by omega) (by omega) ?_
  rw [zC_dep hI hw]
  exact zs_iret (pc := 12) dX_sharedDigits_12 rfl rfl (by omega) (by omega) (⟨rfl, rfl, hf9, hX8⟩)
theorem y_X_resultCountByScan {Γ : zG} {l : Launch} (hl : l.stackTraces = false) {d : Nat} (hd : 4 ≤ d) {h : zH} {n : Nat} {B x c np : Nat} {g T : Nat → Nat} {P : Nat → Nat → Nat} {sv : Option (Nat → Nat)} {er fl : Option Nat} {L : List Nat} (hX : XR B h x g P c sv er fl T np L) (hB : B < 2 ^ 20) {dn v : Nat} (q1 : dn ≤ 3) (q2 : v < 10 ^ dn) : zC Γ l d mX_resultCountByScan [.ref x, .int (nI dn), .int (nI v)] h n 0 0 (zXy x h n (zres g dn v) (fun h1 => XR B h1 x g P c sv er fl T np L)) := by
  have hX9 := hX; obtain ⟨⟨st, hst, hx, htr⟩, hR, hI, hsv, hH, hrk, hpg, hn60, hTc, hL, hag⟩ := hX; have i0 := hI.1
  obtain ⟨p, Q, hC, hp, hA⟩ := hR
  have h3 := z10 q1
  refine zC_of (ls := [some (.ref x), some (.int (nI dn)), some (.int (nI v)), none, none]) hl (by decide +kernel) rfl (Nat.le_of_ble_eq_true rfl) rfl ?_
  refine zs_iload_n (pc := 0) dX_resultCountByScan_0 rfl ?_
  refine zs_iload_n (pc := 1) dX_resultCountByScan_1 rfl ?_
  refine zcS0_2 (pc := 2) (d2 := d - 1) (s_X_requirePrefix_y hl (by omega) (zPv_of q1 q2)) dX_resultCountByScan_2 kX_161 mdX_requirePrefix msX_requirePrefix rfl (Nat.le_of_ble_eq_true rfl) (by omega) (by omega) (by omega) ?_
  refine zs_iconst (pc := 5) dX_resultCountByScan_5 zi_0 ?_
  refine zs_istore_n (pc := 6) (ls2 := [_, _, _, _, _]) dX_resultCountByScan_6 (Nat.le_of_ble_eq_true rfl) rfl ?_
  refine zs_iconst (pc := 7) dX_resultCountByScan_7 zi_0 ?_
  refine zs_istore (pc := 8) (ls2 := [_, _, _, _, _]) dX_resultCountByScan_8 (Nat.le_of_ble_eq_true rfl) rfl ?_
  refine lp_X_resultCountByScan hl hd hx hC hp hA hI hB q1 (by omega) ?_ (g 0) 0 rfl
  refine zs_iload_n (pc := 49) dX_resultCountByScan_49 rfl ?_
  exact zs_iret (pc := 50) dX_resultCountByScan_50 rfl rfl (by omega) (by omega) (⟨rfl, rfl, zfx.rf, hX9⟩)
theorem y_X_sharedDigitsByScan {Γ : zG} {l : Launch} (hl : l.stackTraces = false) {d : Nat} (hd : 4 ≤ d) {h : zH} {n : Nat} {B x c np : Nat} {g T : Nat → Nat} {P : Nat → Nat → Nat} {sv : Option (Nat → Nat)} {er fl : Option Nat} {L : List Nat} (hX : XR B h x g P c sv er fl T np L) (hB : B < 2 ^ 20) {w : Nat} (hw : w < 1000) : zC Γ l d mX_sharedDigitsByScan [.ref x, .int (nI w)] h n 0 0 (zXy x h n (zdep g w) (fun h1 => XR B h1 x g P c sv er fl T np L)) := by
  have hX9 := hX; obtain ⟨⟨st, hst, hx, htr⟩, hR, hI, hsv, hH, hrk, hpg, hn60, hTc, hL, hag⟩ := hX; have i0 := hI.1
  obtain ⟨p, Q, hC, hp, hA⟩ := hR
  refine zC_of (ls := [some (.ref x), some (.int (nI w)), none, none, none, none]) hl (by decide +kernel) rfl (Nat.le_of_ble_eq_true rfl) rfl ?_
  refine zs_iload_n (pc := 0) dX_sharedDigitsByScan_0 rfl ?_
  refine zcS0_1 (pc := 1) (d2 := d - 1) (s_X_requireCode_y hl (by omega) hw) dX_sharedDigitsByScan_1 kX_154 mdX_requireCode msX_requireCode rfl (Nat.le_of_ble_eq_true rfl) (by omega) (by omega) (by omega) ?_
  refine zs_iconst (pc := 4) dX_sharedDigitsByScan_4 zi_0 ?_
  refine zs_istore_n (pc := 5) (ls2 := [_, _, _, _, _, _]) dX_sharedDigitsByScan_5 (Nat.le_of_ble_eq_true rfl) rfl ?_
  refine zs_iconst (pc := 6) dX_sharedDigitsByScan_6 zi_0 ?_
  refine zs_istore_n (pc := 7) (ls2 := [_, _, _, _, _, _]) dX_sharedDigitsByScan_7 (Nat.le_of_ble_eq_true rfl) rfl ?_
  refine lp_X_sharedDigitsByScan (w := w) hl hd hx hC hp hA hI hB hw (fun x4 x5 => ?_) (g 0) 0 rfl _ _
  refine zs_iload_n (pc := 72) dX_sharedDigitsByScan_72 rfl ?_
  exact zs_iret (pc := 73) dX_sharedDigitsByScan_73 rfl rfl (by omega) (by omega) (⟨rfl, rfl, zfx.rf, hX9⟩)
theorem y_X_daysUntilFaded {Γ : zG} {l : Launch} (hl : l.stackTraces = false) {d : Nat} (hd : 4 ≤ d) {h : zH} {n : Nat} {B x c np : Nat} {g T : Nat → Nat} {P : Nat → Nat → Nat} {sv : Option (Nat → Nat)} {er fl : Option Nat} {L : List Nat} (hX : XR B h x g P c sv er fl T np L) (hB : B < 2 ^ 20) {k : Nat} (f1 : k < g 0) : zC Γ l d mX_daysUntilFaded [.ref x, .int (nI (eg g k 0))] h n 0 0 (zXy x h n (zlife (eg g k) - eg g k 2 + 1) (fun h1 => XR B h1 x g P c sv er fl T np L)) := by
  have hX9 := hX; obtain ⟨⟨st, hst, hx, htr⟩, hR, hI, hsv, hH, hrk, hpg, hn60, hTc, hL, hag⟩ := hX; have i0 := hI.1
  obtain ⟨p, Q, hC, hp, hA⟩ := hR
  have f3 : ∀ i, i < k → nI (eg g i 0) ≠ nI (eg g k 0) := fun i hi => by
    have := (hI.b hB (j := i) (by omega)).1
    have := (hI.b hB (j := k) f1).1
    exact nI_ne (by omega) (by omega) (hI.ne (by omega) f1 (by omega))
  have h0 := hC.2.2 (p k) (hp.1 k (by omega))
  have hA1 := hA k f1
  have hb := hA1.b (hI.b hB f1)
  refine zC_of (ls := [some (.ref x), some (.int (nI (eg g k 0)))]) hl (by decide +kernel) rfl (Nat.le_of_ble_eq_true rfl) rfl ?_
  refine zs_aload_n (pc := 0) dX_daysUntilFaded_0 rfl ?_
  refine zs_iload_n (pc := 1) dX_daysUntilFaded_1 rfl ?_
  refine zcV1_1 (pc := 2) (d2 := d - 1) (s_X_existing_y hl (by omega) hx hC hp hA hI f1 rfl f3) dX_daysUntilFaded_2 kX_127 mdX_existing miX_existing mvX_existing rfl (by first | exact hx | exact h0.1) rfl (Nat.le_of_ble_eq_true rfl) (by omega) (by omega) (by omega) ?_
  refine zcV1_0 (pc := 5) (d2 := d - 1) (s_E_daysLeft hl (by omega) hb (by rw [hA1 2 (by omega), hA1.life]; exact (hI.w f1).2) h0.1) dX_daysUntilFaded_5 kX_242 mdE_daysLeft miE_daysLeft mvE_daysLeft rfl (by first | exact hx | exact h0.1) rfl (Nat.le_of_ble_eq_true rfl) (by omega) (by omega) (by omega) ?_
  rw [hA1 2 (by omega), hA1.life]
  exact zs_iret (pc := 8) dX_daysUntilFaded_8 rfl rfl (by omega) (by omega) (⟨rfl, rfl, zfx.rf, hX9⟩)
/-! an entry's copy grows old -/
theorem zEh_o {h : zH} {e c : Nat} {q q2 : Nat → Nat} (hne : e ≠ c) (hq : ∀ i, q2 (6 + i) = q (6 + i)) : zu (zEh h e c q) e (zEo q2 c) = zEh h e c q2 := by
  unfold zEh
  rw [zEc_c hq, zu_cm (a := c) (b := e) (Ne.symm hne), zu_zu]
theorem lp_X_daysUntilFadedByDays {Γ : zG} {l : Launch} (hl : l.stackTraces = false) {d : Nat} (hd : 4 ≤ d) {h : zH} {n : Nat} {x st a0 : Nat} {sv : Bool} {er fl : Option Nat} {q0 : Nat → Nat} {y : Int32} {mc ms : Nat} {FN : List Frame → Array Value → State → State → Prop} (hx : h x = some (zXo x st sv er fl)) (hb : zEb q0) (ha : q0 2 = a0) (hle : a0 ≤ zlife q0) (K : Z Γ l mX_daysUntilFadedByDays d mc ms FN 50 [some (.ref x), some (.int y), some (.int (nI (zlife q0 - a0 + 1)))] [] (zEh h (x + 479) (x + 480) (zup q0 2 (zlife q0 + 1))) n 0 0) : ∀ i j, i + j = zlife q0 - a0 + 1 → Z Γ l mX_daysUntilFadedByDays d mc ms FN 14 [some (.ref x), some (.int y), some (.int (nI j))] [] (zEh h (x + 479) (x + 480) (zup q0 2 (a0 + j))) n 0 0 := by
  have hl0 := zlife_le q0
  obtain ⟨b0, b1, b2, b3, b4, b5, b6⟩ := hb
  have hlf : ∀ v, zlife (zup q0 2 v) = zlife q0 := fun v => rfl
  have hbv : ∀ v, v ≤ 300 → zEb (zup q0 2 v) := fun v hv => ⟨b0, b1, hv, b3, b4, b5, fun i hi => by have hi2 : i < q0 5 := hi; rw [zup_n (by omega)]; exact b6 i hi2⟩
  intro i
  induction i with
  | zero =>
    intro j hj
    have hej : zEh h (x + 479) (x + 480) (zup q0 2 (a0 + j)) (x + 479) = some (zEo (zup q0 2 (a0 + j)) (x + 480)) := zEh_e (by omega)
    have hxj : zEh h (x + 479) (x + 480) (zup q0 2 (a0 + j)) x = some (zXo x st sv er fl) := by rw [zEh_n (by omega) (by omega)]; exact hx
    rw [show zlife q0 + 1 = a0 + j by omega, show zlife q0 - a0 + 1 = j by omega] at K
    by_cases e : j = 151
    · refine zs_iload_n (pc := 14) dX_daysUntilFadedByDays_14 rfl ?_
      refine zs_sipush (pc := 15) dX_daysUntilFadedByDays_15 (zi_s 150 (by decide)) ?_
      refine zn_icmp_gt (pc := 18) 50 dX_daysUntilFadedByDays_18 rfl (by omega) (by omega) (fun _ => ?_) (fun h9 => absurd h9 (by omega))
      exact K
    · refine zs_iload_n (pc := 14) dX_daysUntilFadedByDays_14 rfl ?_
      refine zs_sipush (pc := 15) dX_daysUntilFadedByDays_15 (zi_s 150 (by decide)) ?_
      refine zn_icmp_gt (pc := 18) 50 dX_daysUntilFadedByDays_18 rfl (by omega) (by omega) (fun h9 => absurd h9 (by omega)) (fun _ => ?_)
      refine zs_aload_n (pc := 21) dX_daysUntilFadedByDays_21 rfl ?_
      refine zs_get (pc := 22) dX_daysUntilFadedByDays_22 fX_57 (by first | exact hxj | exact hej) (by rfl) ?_
      refine zcV1_0 (pc := 25) (d2 := d - 1) (s_E_hasFaded hl (by omega) (hbv (a0 + j) (by omega)) hej) dX_daysUntilFadedByDays_25 kX_249 mdE_hasFaded miE_hasFaded mvE_hasFaded rfl (by exact hej) rfl (Nat.le_of_ble_eq_true rfl) (by omega) (by omega) (by omega) ?_
      refine zs_if_ne (pc := 28) 50 dX_daysUntilFadedByDays_28 rfl (fun _ => ?_) (fun h9 => absurd h9 (by rw [if_pos (by rw [hlf]; show zlife q0 < a0 + j; omega)]; decide))
      exact K
  | succ i ih =>
    intro j hj
    have hz := ih (j + 1) (by omega)
    have hej : zEh h (x + 479) (x + 480) (zup q0 2 (a0 + j)) (x + 479) = some (zEo (zup q0 2 (a0 + j)) (x + 480)) := zEh_e (by omega)
    have hxj : zEh h (x + 479) (x + 480) (zup q0 2 (a0 + j)) x = some (zXo x st sv er fl) := by rw [zEh_n (by omega) (by omega)]; exact hx
    refine zs_iload_n (pc := 14) dX_daysUntilFadedByDays_14 rfl ?_
    refine zs_sipush (pc := 15) dX_daysUntilFadedByDays_15 (zi_s 150 (by decide)) ?_
    refine zn_icmp_gt (pc := 18) 50 dX_daysUntilFadedByDays_18 rfl (by omega) (by omega) (fun h9 => absurd h9 (by omega)) (fun _ => ?_)
    refine zs_aload_n (pc := 21) dX_daysUntilFadedByDays_21 rfl ?_
    refine zs_get (pc := 22) dX_daysUntilFadedByDays_22 fX_57 (by first | exact hxj | exact hej) (by rfl) ?_
    refine zcV1_0 (pc := 25) (d2 := d - 1) (s_E_hasFaded hl (by omega) (hbv (a0 + j) (by omega)) hej) dX_daysUntilFadedByDays_25 kX_249 mdE_hasFaded miE_hasFaded mvE_hasFaded rfl (by exact hej) rfl (Nat.le_of_ble_eq_true rfl) (by omega) (by omega) (by omega) ?_
    refine zs_if_ne (pc := 28) 50 dX_daysUntilFadedByDays_28 rfl (fun h9 => absurd h9 (by rw [if_neg (by rw [hlf]; show ¬ zlife q0 < a0 + j; omega)]; exact fun q => q rfl)) (fun _ => ?_)
    refine zs_aload_n (pc := 31) dX_daysUntilFadedByDays_31 rfl ?_
    refine zs_get (pc := 32) dX_daysUntilFadedByDays_32 fX_57 (by first | exact hxj | exact hej) (by rfl) ?_
    refine zs_dup (pc := 35) dX_daysUntilFadedByDays_35 rfl ?_
    refine zs_get (pc := 36) dX_daysUntilFadedByDays_36 fX_134 (by exact hej) (by rfl) ?_
    refine zs_iconst (pc := 39) dX_daysUntilFadedByDays_39 zi_1 ?_
    refine zn_iadd (pc := 40) dX_daysUntilFadedByDays_40 ?_
    refine zs_put (pc := 41) (fs2 := [_, _, _, _, _, _, _]) dX_daysUntilFadedByDays_41 fX_134 (by exact hej) (by rfl) (by rfl) (by exact Nat.le_of_ble_eq_true rfl) (by rfl) ?_
    have e : zu (zEh h (x + 479) (x + 480) (zup q0 2 (a0 + j))) (x + 479) (zEo (zup q0 2 (a0 + (j + 1))) (x + 480)) = zEh h (x + 479) (x + 480) (zup q0 2 (a0 + (j + 1))) := zEh_o (by omega) (fun i => by rw [zup_n (by omega), zup_n (by omega)])
    rw [← e] at hz
    refine zn_iinc (pc := 44) (ls2 := [_, _, _]) dX_daysUntilFadedByDays_44 rfl (Nat.le_of_ble_eq_true rfl) rfl ?_
    refine zs_goto (pc := 47) 14 dX_daysUntilFadedByDays_47 rfl ?_
    exact hz
theorem w_X_daysUntilFadedByDays {Γ : zG} {l : Launch} (hl : l.stackTraces = false) {d : Nat} (hd : 4 ≤ d) {h : zH} {n : Nat} {B x c np : Nat} {g T : Nat → Nat} {P : Nat → Nat → Nat} {sv : Option (Nat → Nat)} {er fl : Option Nat} {L : List Nat} (hX : XR B h x g P c sv er fl T np L) (hB : B < 2 ^ 20) {k : Nat} {y : Int32} (f1 : k < g 0) (f2 : nI (eg g k 0) = y) (f3 : ∀ i, i < k → nI (eg g i 0) ≠ y) {mc ms : Nat} {FN : List Frame → Array Value → State → State → Prop} (K : ∀ h1, zfx x h h1 → XR B h1 x g P c sv er fl T np L → Z Γ l mX_daysUntilFadedByDays d mc ms FN 50 [some (.ref x), some (.int y), some (.int (nI (zlife (eg g k) - eg g k 2 + 1)))] [] h1 n 0 0) : Z Γ l mX_daysUntilFadedByDays d mc ms FN 0 [some (.ref x), some (.int y), none] [] h n 0 0 := by
  have hX9 := hX; obtain ⟨⟨st, hst, hx, htr⟩, hR, hI, hsv, hH, hrk, hpg, hn60, hTc, hL, hag⟩ := hX; have i0 := hI.1
  obtain ⟨p, Q, hC, hp, hA⟩ := id hR
  obtain ⟨q, g1, g2⟩ := id hag
  have h0 := hC.2.2 (p k) (hp.1 k (by omega))
  have hA1 := hA k f1
  have hb := hA1.b (hI.b hB f1)
  have hw := (hI.w f1).2
  have h6 := hI.s6 k f1
  have hpk := hp.1 k (by omega)
  have z0 : zAg (zcp q (Q (p k))) (eg g k) := fun i hi => by
    unfold zcp
    rw [if_pos (by omega)]
    exact hA1 i hi
  refine zs_aload_n (pc := 0) dX_daysUntilFadedByDays_0 rfl ?_
  refine zs_get (pc := 1) dX_daysUntilFadedByDays_1 fX_57 (by exact hx) (by rfl) ?_
  refine zs_aload_n (pc := 4) dX_daysUntilFadedByDays_4 rfl ?_
  refine zs_iload_n (pc := 5) dX_daysUntilFadedByDays_5 rfl ?_
  refine zcV1_1 (pc := 6) (d2 := d - 1) (s_X_existing_y hl (by omega) hx hC hp hA hI f1 f2 f3) dX_daysUntilFadedByDays_6 kX_127 mdX_existing miX_existing mvX_existing rfl (by first | exact hx | exact g1) rfl (Nat.le_of_ble_eq_true rfl) (by omega) (by omega) (by omega) ?_
  refine zcV0_1 (pc := 9) (d2 := d - 1) (s_E_copyFrom hl g1 g2 h0.1 h0.2 (by omega) (by omega) (by omega)) dX_daysUntilFadedByDays_9 kX_245 mdE_copyFrom miE_copyFrom mvE_copyFrom rfl (by first | exact hx | exact g1) rfl (Nat.le_of_ble_eq_true rfl) (by omega) (by omega) (by omega) ?_
  refine zs_iconst (pc := 12) dX_daysUntilFadedByDays_12 zi_0 ?_
  refine zs_istore_n (pc := 13) (ls2 := [_, _, _]) dX_daysUntilFadedByDays_13 (Nat.le_of_ble_eq_true rfl) rfl ?_
  have hlp := lp_X_daysUntilFadedByDays (Γ := Γ) (n := n) (y := y) (mc := mc) (ms := ms) (FN := FN) (a0 := eg g k 2) hl hd hx (z0.b (hI.b hB f1)) (z0 2 (by omega)) (by rw [z0.life]; exact hw) (by
    rw [z0.life]
    refine K _ (fun a ha => zEh_n (by omega) (by omega)) ?_
    have hkz : ∀ a, a ≠ x + 479 → a ≠ x + 480 → zEh h (x + 479) (x + 480) (zup (zcp q (Q (p k))) 2 (zlife (eg g k) + 1)) a = h a := fun a a1 a2 => zEh_n a1 a2
    exact ⟨⟨st, hst, by rw [hkz _ (by omega) (by omega)]; exact hx, htr.sm (fun q q1 q2 => hkz q (by omega) (by omega))⟩, hR.sm (fun q q1 q2 => hkz q (by omega) (by omega)), hI, hsv.sm (fun q q1 q2 => hkz q (by omega) (by omega)), hH.sm (fun q q1 q2 => hkz q (by omega) (by omega)), hrk.sm (fun q q1 q2 => hkz q (by omega) (by omega)), hpg.sm (fun q q1 q2 => hkz q (by omega) (by omega)), hn60, hTc, hL.sm (fun q q1 q2 => hkz q (by omega) (by omega)), ⟨_, zEh_e (by omega), zEh_c⟩⟩) (zlife (zcp q (Q (p k))) - eg g k 2 + 1) 0 rfl
  have e : zup (zcp q (Q (p k))) 2 (eg g k 2 + 0) = zcp q (Q (p k)) := by
    funext i
    unfold zup
    by_cases e2 : i = 2
    · subst e2
      rw [if_pos rfl]
      exact (z0 2 (by omega)).symm
    · rw [if_neg e2]
  rw [e] at hlp
  exact hlp
theorem y_X_daysUntilFadedByDays {Γ : zG} {l : Launch} (hl : l.stackTraces = false) {d : Nat} (hd : 4 ≤ d) {h : zH} {n : Nat} {B x c np : Nat} {g T : Nat → Nat} {P : Nat → Nat → Nat} {sv : Option (Nat → Nat)} {er fl : Option Nat} {L : List Nat} (hX : XR B h x g P c sv er fl T np L) (hB : B < 2 ^ 20) {k : Nat} (f1 : k < g 0) : zC Γ l d mX_daysUntilFadedByDays [.ref x, .int (nI (eg g k 0))] h n 0 0 (zXy x h n (zlife (eg g k) - eg g k 2 + 1) (fun h1 => XR B h1 x g P c sv er fl T np L)) := by
  have hI := hX.2.2.1
  have f3 : ∀ i, i < k → nI (eg g i 0) ≠ nI (eg g k 0) := fun i hi => by
    have := (hI.b hB (j := i) (by omega)).1
    have := (hI.b hB (j := k) f1).1
    exact nI_ne (by omega) (by omega) (hI.ne (by omega) f1 (by omega))
  refine zC_of (ls := [some (.ref x), some (.int (nI (eg g k 0))), none]) hl (by decide +kernel) rfl (Nat.le_of_ble_eq_true rfl) rfl ?_
  refine w_X_daysUntilFadedByDays hl hd hX hB f1 rfl f3 (fun h1 hf1 hX1 => ?_)
  refine zs_iload_n (pc := 50) dX_daysUntilFadedByDays_50 rfl ?_
  exact zs_iret (pc := 51) dX_daysUntilFadedByDays_51 rfl rfl (by omega) (by omega) (⟨rfl, rfl, hf1, hX1⟩)
theorem s_X_daysUntilFadedByDays {Γ : zG} {l : Launch} (hl : l.stackTraces = false) {d : Nat} (hd : 4 ≤ d) {h : zH} {n : Nat} {B x c np : Nat} {g T : Nat → Nat} {P : Nat → Nat → Nat} {sv : Option (Nat → Nat)} {er fl : Option Nat} {L : List Nat} (hX : XR B h x g P c sv er fl T np L) (hB : B < 2 ^ 20) (y : Int32) : zC Γ l d mX_daysUntilFadedByDays [.ref x, .int y] h n 1 6 (zXq x h n ["", sNS] (aLeft g y) (fun h1 => XR B h1 x g P c sv er fl T np L)) := by
  unfold aLeft
  refine zC_of (ls := [some (.ref x), some (.int y), none]) hl (by decide +kernel) rfl (Nat.le_of_ble_eq_true rfl) rfl ?_
  cases hH : zHas g y with
  | true =>
    rw [if_pos rfl]
    obtain ⟨f1, f2, f3⟩ := zHas_y hH
    refine w_X_daysUntilFadedByDays hl hd hX hB f1 f2 f3 (fun h1 hf1 hX1 => ?_)
    refine zs_iload_n (pc := 50) dX_daysUntilFadedByDays_50 rfl ?_
    exact zs_iret (pc := 51) dX_daysUntilFadedByDays_51 rfl rfl (by omega) (by omega) (⟨zOut.y, hf1.z, hX1⟩)
  | false =>
    rw [if_neg (by decide)]
    have hX9 := hX
    obtain ⟨⟨st, hst, hx, htr⟩, ⟨p, Q, hC, hp, hA⟩, hI, -⟩ := hX
    refine zs_aload_n (pc := 0) dX_daysUntilFadedByDays_0 rfl ?_
    refine zs_get (pc := 1) dX_daysUntilFadedByDays_1 fX_57 (by exact hx) (by rfl) ?_
    refine zs_aload_n (pc := 4) dX_daysUntilFadedByDays_4 rfl ?_
    refine zs_iload_n (pc := 5) dX_daysUntilFadedByDays_5 rfl ?_
    refine zcVT_1 (pc := 6) (d2 := d - 1) (s_X_existing_n hl (by omega) hx hC hp hA hI hH) dX_daysUntilFadedByDays_6 kX_127 mdX_existing miX_existing mvX_existing rfl (by exact hx) rfl (Nat.le_of_ble_eq_true rfl) (by omega) (by omega) (by omega) rfl (fun n2 hn2 => ?_)
    exact ⟨zOut.n rfl hn2, zfr.rf, hX9⟩

