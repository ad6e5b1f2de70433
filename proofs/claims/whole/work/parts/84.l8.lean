/-! the law: the loop, and the start -/
theorem zlim {L i : Nat} (hL : L ≤ 2048) (hi : i ≤ 4096) (h : ¬ nI L - nI 4 < nI i) : i + 4 ≤ L := by
  by_cases h4 : 4 ≤ L
  · rw [pk_sub h4] at h
    have h2 : ¬ L - 4 < i := fun q => h (by rw [Int32.lt_iff_toInt_lt, nI_toInt (by omega), nI_toInt (by omega)]; omega)
    omega
  · exfalso
    apply h
    rw [Int32.lt_iff_toInt_lt, nI_toInt (n := i) (by omega)]
    have e : (nI L - nI 4).toInt < 0 := by
      rcases (show L = 0 ∨ L = 1 ∨ L = 2 ∨ L = 3 by omega) with rfl | rfl | rfl | rfl <;> decide
    omega
theorem sL_loop {Γ : zG} {l : Launch} (hl : l.stackTraces = false) {d mc ms : Nat} (hd : 12 ≤ d) {FN : List Frame → Array Value → State → State → Prop} {x a r t : Nat} (ha : a = x + 481) (hr : r = a + 10) (ht : t = a + 11) (hZ : zgL Γ ≤ 2048) (KE : ∀ (ls9 : List (Option Value)) (h9 : zH) (n9 k9 ks9 : Nat), k9 ≤ mc → ks9 ≤ ms → Z Γ l mW_law d mc ms FN 3267 ls9 [.int (nI 1)] h9 n9 k9 ks9) : ∀ (f i : Nat) (h : zH) (n k ks B : Nat) (v6 v7 v8 : Option Value), zgL Γ < i + 4 + 4 * f → i ≤ 4096 → k + f + 1 ≤ mc → ks + 6 * f + 6 ≤ ms → B + 300 * f + 640 < 2 ^ 20 → zLI x a r t B h → Z Γ l mW_law d mc ms FN 28 [some (.ref (zgS Γ)), some (.ref x), some (.ref a), some (.ref r), some (.ref t), some (.int (nI i)), v6, v7, v8] [] h n k ks := by
  intro f
  induction f with
  | zero =>
    intro i h n k ks B v6 v7 v8 h1 h2 h3 h4 h5 hLI
    refine zs_iload (pc := 28) dW_law_28 rfl ?_
    refine zs_aload_n (pc := 30) dW_law_30 rfl ?_
    refine zs_slen (pc := 31) dW_law_31 ?_
    refine zs_iconst (pc := 32) dW_law_32 zi_4 ?_
    refine zs_isub (pc := 33) dW_law_33 ?_
    refine zs_icmp_gt (pc := 34) 3266 dW_law_34 rfl (fun hb => ?_) (fun hb => ?_)
    · refine zs_iconst (pc := 3266) dW_law_3266 zi_1 ?_
      exact KE _ _ _ _ _ (by omega) (by omega)
    · have hi := zlim hZ h2 hb
      exact absurd h1 (by omega)
  | succ f ih =>
    intro i h n k ks B v6 v7 v8 h1 h2 h3 h4 h5 hLI
    have KK : ∀ (h9 : zH) (n9 k9 ks9 B9 : Nat) (w6 w7 w8 : Option Value), k9 ≤ k + 1 → ks9 ≤ ks + 6 → B9 ≤ B + 300 → zLI x a r t B9 h9 → Z Γ l mW_law d mc ms FN 3260 [some (.ref (zgS Γ)), some (.ref x), some (.ref a), some (.ref r), some (.ref t), some (.int (nI i)), w6, w7, w8] [] h9 n9 k9 ks9 := by
      intro h9 n9 k9 ks9 B9 w6 w7 w8 e1 e2 e3 hLI9
      by_cases hi9 : i + 4 ≤ 4096
      · refine zs_iinc (pc := 3260) (v := nI (i + 4)) (ls2 := [_, _, _, _, _, _, _, _, _]) dW_law_3260 rfl (by rw [show Int32.ofInt 4 = nI 4 from rfl, nI_add]) (Nat.le_of_ble_eq_true rfl) rfl ?_
        refine zs_goto (pc := 3263) 28 dW_law_3263 rfl ?_
        exact ih (i + 4) h9 n9 k9 ks9 B9 w6 w7 w8 (by omega) hi9 (by omega) (by omega) (by omega) hLI9
      · refine zs_iinc (pc := 3260) (v := nI (i + 4)) (ls2 := [_, _, _, _, _, _, _, _, _]) dW_law_3260 rfl (by rw [show Int32.ofInt 4 = nI 4 from rfl, nI_add]) (Nat.le_of_ble_eq_true rfl) rfl ?_
        refine zs_goto (pc := 3263) 28 dW_law_3263 rfl ?_
        refine zs_iload (pc := 28) dW_law_28 rfl ?_
        refine zs_aload_n (pc := 30) dW_law_30 rfl ?_
        refine zs_slen (pc := 31) dW_law_31 ?_
        refine zs_iconst (pc := 32) dW_law_32 zi_4 ?_
        refine zs_isub (pc := 33) dW_law_33 ?_
        refine zs_icmp_gt (pc := 34) 3266 dW_law_34 rfl (fun hb => ?_) (fun hb => ?_)
        · refine zs_iconst (pc := 3266) dW_law_3266 zi_1 ?_
          exact KE _ _ _ _ _ (by omega) (by omega)
        · exfalso
          apply hb
          rw [Int32.lt_iff_toInt_lt, nI_toInt (n := i + 4) (by omega)]
          by_cases h4 : 4 ≤ zgL Γ
          · rw [pk_sub h4, nI_toInt (by omega)]
            omega
          · have e : (nI (zgL Γ) - nI 4).toInt < 0 := by
              generalize zgL Γ = L9 at h4
              rcases (show L9 = 0 ∨ L9 = 1 ∨ L9 = 2 ∨ L9 = 3 by omega) with rfl | rfl | rfl | rfl <;> decide
            omega
    refine zs_iload (pc := 28) dW_law_28 rfl ?_
    refine zs_aload_n (pc := 30) dW_law_30 rfl ?_
    refine zs_slen (pc := 31) dW_law_31 ?_
    refine zs_iconst (pc := 32) dW_law_32 zi_4 ?_
    refine zs_isub (pc := 33) dW_law_33 ?_
    refine zs_icmp_gt (pc := 34) 3266 dW_law_34 rfl (fun hb => ?_) (fun hb => ?_)
    · refine zs_iconst (pc := 3266) dW_law_3266 zi_1 ?_
      exact KE _ _ _ _ _ (by omega) (by omega)
    · have hi := zlim hZ h2 hb
      have hZ2 : zgL Γ < 2 ^ 31 := by omega
      refine zs_aload_n (pc := 37) dW_law_37 rfl ?_
      refine zs_iload (pc := 38) dW_law_38 rfl ?_
      refine zs_sld (pc := 40) dW_law_40 (vp_in_nI (by omega) (by omega)) ?_
      refine zs_bipush (pc := 41) dW_law_41 (zi_b 63 (by decide)) ?_
      refine zs_iand (pc := 43) dW_law_43 ?_
      generalize (zgX Γ (nI i).toNatClampNeg &&& nI 63) = w
      by_cases h0 : 0 ≤ w.toInt ∧ w.toInt ≤ 56
      · have hw := z_nI h0.1
        have hj : w.toInt.toNat ≤ 56 := by omega
        generalize w.toInt.toNat = j at hw hj
        subst hw
        match j, hj with
        | 0, _ =>
          refine zs_tableIn (pc := 44) (off := 244) 288 dW_law_44 (by decide) (by decide) (by decide) rfl ?_
          exact sL_addEntry hl hd ha hr ht (by omega) hi hZ2 (by omega) (by omega) hLI KK
        | 1, _ =>
          refine zs_tableIn (pc := 44) (off := 300) 344 dW_law_44 (by decide) (by decide) (by decide) rfl ?_
          exact sL_addCode hl hd ha hr ht (by omega) hi hZ2 (by omega) (by omega) hLI KK
        | 2, _ =>
          refine zs_tableIn (pc := 44) (off := 368) 412 dW_law_44 (by decide) (by decide) (by decide) rfl ?_
          exact sL_removeCode hl hd ha hr ht (by omega) hi hZ2 (by omega) (by omega) hLI KK
        | 3, _ =>
          refine zs_tableIn (pc := 44) (off := 436) 480 dW_law_44 (by decide) (by decide) (by decide) rfl ?_
          exact sL_removeEntry hl hd ha hr ht (by omega) hi hZ2 (by omega) (by omega) hLI KK
        | 4, _ =>
          refine zs_tableIn (pc := 44) (off := 492) 536 dW_law_44 (by decide) (by decide) (by decide) rfl ?_
          exact sL_touch hl hd ha hr ht (by omega) hi hZ2 (by omega) (by omega) hLI KK
        | 5, _ =>
          refine zs_tableIn (pc := 44) (off := 548) 592 dW_law_44 (by decide) (by decide) (by decide) rfl ?_
          exact sL_merge hl hd ha hr ht (by omega) hi hZ2 (by omega) (by omega) hLI KK
        | 6, _ =>
          refine zs_tableIn (pc := 44) (off := 616) 660 dW_law_44 (by decide) (by decide) (by decide) rfl ?_
          exact sL_startSegment hl hd ha hr ht (by omega) hi hZ2 (by omega) (by omega) hLI KK
        | 7, _ =>
          refine zs_tableIn (pc := 44) (off := 660) 704 dW_law_44 (by decide) (by decide) (by decide) rfl ?_
          exact sL_joinSegments hl hd ha hr ht (by omega) hi hZ2 (by omega) (by omega) hLI KK
        | 8, _ =>
          refine zs_tableIn (pc := 44) (off := 716) 760 dW_law_44 (by decide) (by decide) (by decide) rfl ?_
          exact sL_search hl hd ha hr ht (by omega) hi hZ2 (by omega) (by omega) hLI KK
        | 9, _ =>
          refine zs_tableIn (pc := 44) (off := 784) 828 dW_law_44 (by decide) (by decide) (by decide) rfl ?_
          exact sL_pass hl hd ha hr ht (by omega) hi hZ2 (by omega) (by omega) hLI KK
        | 10, _ =>
          refine zs_tableIn (pc := 44) (off := 840) 884 dW_law_44 (by decide) (by decide) (by decide) rfl ?_
          exact sL_entryCount hl hd ha hr ht (by omega) hi hZ2 (by omega) (by omega) hLI KK
        | 11, _ =>
          refine zs_tableIn (pc := 44) (off := 853) 897 dW_law_44 (by decide) (by decide) (by decide) rfl ?_
          exact sL_idAt hl hd ha hr ht (by omega) hi hZ2 (by omega) (by omega) hLI KK
        | 12, _ =>
          refine zs_tableIn (pc := 44) (off := 909) 953 dW_law_44 (by decide) (by decide) (by decide) rfl ?_
          exact sL_weightOf hl hd ha hr ht (by omega) hi hZ2 (by omega) (by omega) hLI KK
        | 13, _ =>
          refine zs_tableIn (pc := 44) (off := 965) 1009 dW_law_44 (by decide) (by decide) (by decide) rfl ?_
          exact sL_ageOf hl hd ha hr ht (by omega) hi hZ2 (by omega) (by omega) hLI KK
        | 14, _ =>
          refine zs_tableIn (pc := 44) (off := 1021) 1065 dW_law_44 (by decide) (by decide) (by decide) rfl ?_
          exact sL_hitsOf hl hd ha hr ht (by omega) hi hZ2 (by omega) (by omega) hLI KK
        | 15, _ =>
          refine zs_tableIn (pc := 44) (off := 1077) 1121 dW_law_44 (by decide) (by decide) (by decide) rfl ?_
          exact sL_lifetimeOf hl hd ha hr ht (by omega) hi hZ2 (by omega) (by omega) hLI KK
        | 16, _ =>
          refine zs_tableIn (pc := 44) (off := 1133) 1177 dW_law_44 (by decide) (by decide) (by decide) rfl ?_
          exact sL_segmentOf hl hd ha hr ht (by omega) hi hZ2 (by omega) (by omega) hLI KK
        | 17, _ =>
          refine zs_tableIn (pc := 44) (off := 1189) 1233 dW_law_44 (by decide) (by decide) (by decide) rfl ?_
          exact sL_codeCount hl hd ha hr ht (by omega) hi hZ2 (by omega) (by omega) hLI KK
        | 18, _ =>
          refine zs_tableIn (pc := 44) (off := 1245) 1289 dW_law_44 (by decide) (by decide) (by decide) rfl ?_
          exact sL_codeAt hl hd ha hr ht (by omega) hi hZ2 (by omega) (by omega) hLI KK
        | 19, _ =>
          refine zs_tableIn (pc := 44) (off := 1313) 1357 dW_law_44 (by decide) (by decide) (by decide) rfl ?_
          exact sL_hasCode hl hd ha hr ht (by omega) hi hZ2 (by omega) (by omega) hLI KK
        | 20, _ =>
          refine zs_tableIn (pc := 44) (off := 1388) 1432 dW_law_44 (by decide) (by decide) (by decide) rfl ?_
          exact sL_matches hl hd ha hr ht (by omega) hi hZ2 (by omega) (by omega) hLI KK
        | 21, _ =>
          refine zs_tableIn (pc := 44) (off := 1475) 1519 dW_law_44 (by decide) (by decide) (by decide) rfl ?_
          exact sL_segmentCount hl hd ha hr ht (by omega) hi hZ2 (by omega) (by omega) hLI KK
        | 22, _ =>
          refine zs_tableIn (pc := 44) (off := 1488) 1532 dW_law_44 (by decide) (by decide) (by decide) rfl ?_
          exact sL_entriesIn hl hd ha hr ht (by omega) hi hZ2 (by omega) (by omega) hLI KK
        | 23, _ =>
          refine zs_tableIn (pc := 44) (off := 1544) 1588 dW_law_44 (by decide) (by decide) (by decide) rfl ?_
          exact sL_resultCount hl hd ha hr ht (by omega) hi hZ2 (by omega) (by omega) hLI KK
        | 24, _ =>
          refine zs_tableIn (pc := 44) (off := 1612) 1656 dW_law_44 (by decide) (by decide) (by decide) rfl ?_
          exact sL_resultCountByScan hl hd ha hr ht (by omega) hi hZ2 (by omega) (by omega) hLI KK
        | 25, _ =>
          refine zs_tableIn (pc := 44) (off := 1680) 1724 dW_law_44 (by decide) (by decide) (by decide) rfl ?_
          exact sL_resultAt hl hd ha hr ht (by omega) hi hZ2 (by omega) (by omega) hLI KK
        | 26, _ =>
          refine zs_tableIn (pc := 44) (off := 1760) 1804 dW_law_44 (by decide) (by decide) (by decide) rfl ?_
          exact sL_scoreOf hl hd ha hr ht (by omega) hi hZ2 (by omega) (by omega) hLI KK
        | 27, _ =>
          refine zs_tableIn (pc := 44) (off := 1840) 1884 dW_law_44 (by decide) (by decide) (by decide) rfl ?_
          exact sL_codesWith hl hd ha hr ht (by omega) hi hZ2 (by omega) (by omega) hLI KK
        | 28, _ =>
          refine zs_tableIn (pc := 44) (off := 1908) 1952 dW_law_44 (by decide) (by decide) (by decide) rfl ?_
          exact sL_nextDigits hl hd ha hr ht (by omega) hi hZ2 (by omega) (by omega) hLI KK
        | 29, _ =>
          refine zs_tableIn (pc := 44) (off := 1976) 2020 dW_law_44 (by decide) (by decide) (by decide) rfl ?_
          exact sL_sharedDigits hl hd ha hr ht (by omega) hi hZ2 (by omega) (by omega) hLI KK
        | 30, _ =>
          refine zs_tableIn (pc := 44) (off := 2032) 2076 dW_law_44 (by decide) (by decide) (by decide) rfl ?_
          exact sL_sharedDigitsByScan hl hd ha hr ht (by omega) hi hZ2 (by omega) (by omega) hLI KK
        | 31, _ =>
          refine zs_tableIn (pc := 44) (off := 2088) 2132 dW_law_44 (by decide) (by decide) (by decide) rfl ?_
          exact sL_entriesWith hl hd ha hr ht (by omega) hi hZ2 (by omega) (by omega) hLI KK
        | 32, _ =>
          refine zs_tableIn (pc := 44) (off := 2144) 2188 dW_law_44 (by decide) (by decide) (by decide) rfl ?_
          exact sL_codeAfter hl hd ha hr ht (by omega) hi hZ2 (by omega) (by omega) hLI KK
        | 33, _ =>
          refine zs_tableIn (pc := 44) (off := 2200) 2244 dW_law_44 (by decide) (by decide) (by decide) rfl ?_
          exact sL_commonestCode hl hd ha hr ht (by omega) hi hZ2 (by omega) (by omega) hLI KK
        | 34, _ =>
          refine zs_tableIn (pc := 44) (off := 2244) 2288 dW_law_44 (by decide) (by decide) (by decide) rfl ?_
          exact sL_sharedCodes hl hd ha hr ht (by omega) hi hZ2 (by omega) (by omega) hLI KK
        | 35, _ =>
          refine zs_tableIn (pc := 44) (off := 2312) 2356 dW_law_44 (by decide) (by decide) (by decide) rfl ?_
          exact sL_mostSimilar hl hd ha hr ht (by omega) hi hZ2 (by omega) (by omega) hLI KK
        | 36, _ =>
          refine zs_tableIn (pc := 44) (off := 2368) 2412 dW_law_44 (by decide) (by decide) (by decide) rfl ?_
          exact sL_daysUntilFaded hl hd ha hr ht (by omega) hi hZ2 (by omega) (by omega) hLI KK
        | 37, _ =>
          refine zs_tableIn (pc := 44) (off := 2424) 2468 dW_law_44 (by decide) (by decide) (by decide) rfl ?_
          exact sL_daysUntilFadedByDays hl hd ha hr ht (by omega) hi hZ2 (by omega) (by omega) hLI KK
        | 38, _ =>
          refine zs_tableIn (pc := 44) (off := 2480) 2524 dW_law_44 (by decide) (by decide) (by decide) rfl ?_
          exact sL_fadingWithin hl hd ha hr ht (by omega) hi hZ2 (by omega) (by omega) hLI KK
        | 39, _ =>
          refine zs_tableIn (pc := 44) (off := 2536) 2580 dW_law_44 (by decide) (by decide) (by decide) rfl ?_
          exact sL_addedTotal hl hd ha hr ht (by omega) hi hZ2 (by omega) (by omega) hLI KK
        | 40, _ =>
          refine zs_tableIn (pc := 44) (off := 2549) 2593 dW_law_44 (by decide) (by decide) (by decide) rfl ?_
          exact sL_removedTotal hl hd ha hr ht (by omega) hi hZ2 (by omega) (by omega) hLI KK
        | 41, _ =>
          refine zs_tableIn (pc := 44) (off := 2562) 2606 dW_law_44 (by decide) (by decide) (by decide) rfl ?_
          exact sL_mergedTotal hl hd ha hr ht (by omega) hi hZ2 (by omega) (by omega) hLI KK
        | 42, _ =>
          refine zs_tableIn (pc := 44) (off := 2575) 2619 dW_law_44 (by decide) (by decide) (by decide) rfl ?_
          exact sL_fadedTotal hl hd ha hr ht (by omega) hi hZ2 (by omega) (by omega) hLI KK
        | 43, _ =>
          refine zs_tableIn (pc := 44) (off := 2588) 2632 dW_law_44 (by decide) (by decide) (by decide) rfl ?_
          exact sL_meanCodes hl hd ha hr ht (by omega) hi hZ2 (by omega) (by omega) hLI KK
        | 44, _ =>
          refine zs_tableIn (pc := 44) (off := 2653) 2697 dW_law_44 (by decide) (by decide) (by decide) rfl ?_
          exact sL_fadedShare hl hd ha hr ht (by omega) hi hZ2 (by omega) (by omega) hLI KK
        | 45, _ =>
          refine zs_tableIn (pc := 44) (off := 2719) 2763 dW_law_44 (by decide) (by decide) (by decide) rfl ?_
          exact sL_isConsistent hl hd ha hr ht (by omega) hi hZ2 (by omega) (by omega) hLI KK
        | 46, _ =>
          refine zs_tableIn (pc := 44) (off := 2732) 2776 dW_law_44 (by decide) (by decide) (by decide) rfl ?_
          exact sL_formatEntry hl hd ha hr ht (by omega) hi hZ2 (by omega) (by omega) hLI KK
        | 47, _ =>
          refine zs_tableIn (pc := 44) (off := 2788) 2832 dW_law_44 (by decide) (by decide) (by decide) rfl ?_
          exact sL_formatResults hl hd ha hr ht (by omega) hi hZ2 (by omega) (by omega) hLI KK
        | 48, _ =>
          refine zs_tableIn (pc := 44) (off := 2856) 2900 dW_law_44 (by decide) (by decide) (by decide) rfl ?_
          exact sL_lineChar hl hd ha hr ht (by omega) hi hZ2 (by omega) (by omega) hLI KK
        | 49, _ =>
          refine zs_tableIn (pc := 44) (off := 2912) 2956 dW_law_44 (by decide) (by decide) (by decide) rfl ?_
          exact sL_append hl hd ha hr ht (by omega) hi hZ2 (by omega) (by omega) hLI KK
        | 50, _ =>
          refine zs_tableIn (pc := 44) (off := 2970) 3014 dW_law_44 (by decide) (by decide) (by decide) rfl ?_
          exact sL_run hl hd ha hr ht (by omega) hi hZ2 (by omega) (by omega) hLI KK
        | 51, _ =>
          refine zs_tableIn (pc := 44) (off := 3014) 3058 dW_law_44 (by decide) (by decide) (by decide) rfl ?_
          exact sL_errorPosition hl hd ha hr ht (by omega) hi hZ2 (by omega) (by omega) hLI KK
        | 52, _ =>
          refine zs_tableIn (pc := 44) (off := 3058) 3102 dW_law_44 (by decide) (by decide) (by decide) rfl ?_
          exact sL_failedCommand hl hd ha hr ht (by omega) hi hZ2 (by omega) (by omega) hLI KK
        | 53, _ =>
          refine zs_tableIn (pc := 44) (off := 3102) 3146 dW_law_44 (by decide) (by decide) (by decide) rfl ?_
          exact sL_undoableCount hl hd ha hr ht (by omega) hi hZ2 (by omega) (by omega) hLI KK
        | 54, _ =>
          refine zs_tableIn (pc := 44) (off := 3115) 3159 dW_law_44 (by decide) (by decide) (by decide) rfl ?_
          exact sL_undo hl hd ha hr ht (by omega) hi hZ2 (by omega) (by omega) hLI KK
        | 55, _ =>
          refine zs_tableIn (pc := 44) (off := 3159) 3203 dW_law_44 (by decide) (by decide) (by decide) rfl ?_
          exact sL_save hl hd ha hr ht (by omega) hi hZ2 (by omega) (by omega) hLI KK
        | 56, _ =>
          refine zs_tableIn (pc := 44) (off := 3172) 3216 dW_law_44 (by decide) (by decide) (by decide) rfl ?_
          exact sL_restore hl hd ha hr ht (by omega) hi hZ2 (by omega) (by omega) hLI KK
        | j + 57, hj => exact absurd hj (by omega)
      · refine zs_tableOut (pc := 44) 3260 dW_law_44 (by omega) rfl ?_
        exact KK h n k ks B v6 v7 v8 (by omega) (by omega) (by omega) hLI
theorem sL_start {Γ : zG} {l : Launch} (hl : l.stackTraces = false) {d mc ms : Nat} (hd : 12 ≤ d) {FN : List Frame → Array Value → State → State → Prop} {h : zH} {x : Nat} (hmc : 2000 ≤ mc) (hms : 20000 ≤ ms) (hZ : zgL Γ ≤ 2048) (KE : ∀ (ls9 : List (Option Value)) (h9 : zH) (n9 k9 ks9 : Nat), k9 ≤ mc → ks9 ≤ ms → Z Γ l mW_law d mc ms FN 3267 ls9 [.int (nI 1)] h9 n9 k9 ks9) : Z Γ l mW_law d mc ms FN 0 [some (.ref (zgS Γ)), none, none, none, none, none, none, none, none] [] h x 0 0 := by
  refine zs_new (pc := 0) (ci := 7) (N := 12) (T := zTX) (fs := [.null, .null, .null, .null, .null, .null, .null, .null, .int (nI 0), .int (nI 0), .int (nI 0), .int (nI 0)]) dW_law_0 rfl zcX_ok kcW_8 (zt1 (i := 27) rfl) (zt1 (i := 1) rfl) zfsX (by omega) (by omega) ?_
  refine zs_dup (pc := 3) dW_law_3 rfl ?_
  refine zcIR_0 (pc := 4) (d2 := d - 1) (s_X_init (B := 0) hl (by omega) zu_s) dW_law_4 kW_173 mdX_init miX_init rfl rfl rfl (Nat.le_of_ble_eq_true rfl) (by omega) (by omega) (by omega) (fun v h1 n1 hq => ?_) (fun E h1 n1 hq => ?_)
  rotate_left
  · exact absurd hq.1 (by intro q; cases q)
  obtain ⟨hv, hn1, hf, hX⟩ := hq
  obtain rfl := Sum.inl.inj hv
  subst hn1
  refine zs_astore_n (pc := 7) (ls2 := [_, _, _, _, _, _, _, _, _]) dW_law_7 (Nat.le_of_ble_eq_true rfl) rfl ?_
  refine zs_new (pc := 8) (ci := 8) (N := 21) (T := zTM) (fs := [.null, .null, .null, .int (nI 0), .null, .int (nI 0), .int (nI 0), .int (nI 0), .int (nI 0), .null, .int (nI 0), .null, .int (nI 0), .null, .null, .null, .int (nI 0), .int (nI 0), .int (nI 0), .int (nI 0), .int (nI 0)]) dW_law_8 rfl zcM_ok kcW_174 (zt6 (i := 37) rfl) (zt1 (i := 9) rfl) zfsM (by omega) (by omega) ?_
  refine zs_dup (pc := 11) dW_law_11 rfl ?_
  refine zcIR_0 (pc := 12) (d2 := d - 1) (s_M_init hl (by omega) zu_s) dW_law_12 kW_176 mdM_init miM_init rfl rfl rfl (Nat.le_of_ble_eq_true rfl) (by omega) (by omega) (by omega) (fun v h2 n1 hq => ?_) (fun E h2 n1 hq => ?_)
  rotate_left
  · exact absurd hq.1 (by intro q; cases q)
  obtain ⟨hv, hn1, hf2, m0, m1, m2, m3, m4, m5, m6, m7, m8, m9⟩ := hq
  obtain rfl := Sum.inl.inj hv
  subst hn1
  have hX2 := XR.sm (h1 := h2) hX (fun q q1 q2 => by rw [hf2 q (by omega), zu_n (by omega)])
  refine zs_astore_n (pc := 15) (ls2 := [_, _, _, _, _, _, _, _, _]) dW_law_15 (Nat.le_of_ble_eq_true rfl) rfl ?_
  refine zs_iconst (pc := 16) dW_law_16 zi_1 ?_
  refine zs_newa (pc := 17) (kd := 4) (N := 1) (a0 := (1, .inr (.inl (fun _ => 0)))) dW_law_17 (by decide) rfl (by decide) (zt8 (i := 43) rfl) (fun cA => rfl) (by decide) (by decide) (by decide) (by omega) (by omega) ?_
  refine zs_astore_n (pc := 19) (ls2 := [_, _, _, _, _, _, _, _, _]) dW_law_19 (Nat.le_of_ble_eq_true rfl) rfl ?_
  refine zs_iconst (pc := 20) dW_law_20 zi_1 ?_
  refine zs_newa (pc := 21) (kd := 5) (N := 1) (a0 := (1, .inr (.inr (.inr (.inl (fun _ => 0)))))) dW_law_21 (by decide) rfl (by decide) (zt8 (i := 44) rfl) (fun cA => rfl) (by decide) (by decide) (by decide) (by omega) (by omega) ?_
  refine zs_astore (pc := 23) (ls2 := [_, _, _, _, _, _, _, _, _]) dW_law_23 (Nat.le_of_ble_eq_true rfl) rfl ?_
  refine zs_iconst (pc := 25) dW_law_25 zi_0 ?_
  refine zs_istore (pc := 26) (ls2 := [_, _, _, _, _, _, _, _, _]) dW_law_26 (Nat.le_of_ble_eq_true rfl) rfl ?_
  refine sL_loop hl hd rfl rfl rfl hZ KE 512 0 _ _ _ _ 0 none none none (by omega) (by omega) (by omega) (by omega) (by omega) ?_
  refine ⟨zg0, fun _ _ => 0, 0, none, none, none, fun _ => 0, 0, [], fun _ => 0, fun _ => 0, nI 0, nI 0, nI 0, nI 0, nI 0, nI 0, XR.sm hX2 (fun q q1 q2 => by rw [zu_n (by omega), zu_n (by omega)]), by rw [zu_n (by omega), zu_n (by omega)]; exact m0, by rw [zu_n (by omega), zu_n (by omega)]; exact m1, ⟨⟨_, by rw [zu_n (by omega), zu_n (by omega)]; exact m2⟩, ⟨_, by rw [zu_n (by omega), zu_n (by omega)]; exact m3, fun s e => (by cases e)⟩, ⟨_, by rw [zu_n (by omega), zu_n (by omega)]; exact m4, fun k hk => absurd hk (by omega)⟩, by rw [zu_n (by omega), zu_n (by omega)]; exact m5, ⟨_, by rw [zu_n (by omega), zu_n (by omega)]; exact m6, fun i hi => absurd hi (by show ¬ i < 0; omega)⟩, by rw [zu_n (by omega), zu_n (by omega)]; exact m7, by rw [zu_n (by omega), zu_n (by omega)]; exact m8, ⟨_, by rw [zu_n (by omega), zu_n (by omega)]; exact m9⟩⟩, by rw [zu_n (by omega)]; exact zu_s, zu_s, by omega, ⟨by decide, fun c hc => by cases hc⟩, fun p e => (by cases e), fun p e => (by cases e)⟩

