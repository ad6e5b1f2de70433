/-! the law: the steps, 5 -/
theorem sL_run {Γ : zG} {l : Launch} (hl : l.stackTraces = false) {d mc ms : Nat} (hd : 12 ≤ d) {FN : List Frame → Array Value → State → State → Prop} {x a r t n k ks i B : Nat} {h : zH} {v6 v7 v8 : Option Value} (ha : a = x + 481) (hr : r = a + 10) (ht : t = a + 11) (hB : B + 640 < 2 ^ 20) (hi : i + 4 ≤ zgL Γ) (hZ : zgL Γ < 2 ^ 31) (hk : k + 1 ≤ mc) (hks : ks + 6 ≤ ms) (hLI : zLI x a r t B h) (K : ∀ (h9 : zH) (n9 k9 ks9 B9 : Nat) (w6 w7 w8 : Option Value), k9 ≤ k + 1 → ks9 ≤ ks + 6 → B9 ≤ B + 300 → zLI x a r t B9 h9 → Z Γ l mW_law d mc ms FN 3260 [some (.ref (zgS Γ)), some (.ref x), some (.ref a), some (.ref r), some (.ref t), some (.int (nI i)), w6, w7, w8] [] h9 n9 k9 ks9) : Z Γ l mW_law d mc ms FN 3014 [some (.ref (zgS Γ)), some (.ref x), some (.ref a), some (.ref r), some (.ref t), some (.int (nI i)), v6, v7, v8] [] h n k ks := by
  obtain ⟨g, P, c, sv, er, fl, T, np, L, f0, f1, s8, s16, s17, s18, s19, s20, hX, m0, m1, hM, h3, h4, hc8, hLb, her, hfl⟩ := hLI
  have hI : IG B g := hX.2.2.1
  obtain ⟨⟨st, hst, hx, htr⟩, hXr⟩ := id hX
  refine zs_aload_n (pc := 3014) dW_law_3014 rfl ?_
  refine zs_aload_n (pc := 3015) dW_law_3015 rfl ?_
  refine zcX_2 (pc := 3016) (d2 := d - 1) (s_W_run hl (by omega) hX (by omega) (by omega) (by omega) h3) dW_law_3016 kW_346 mdW_run msW_run (by decide) (Nat.le_of_ble_eq_true rfl) (by omega) (by omega) (by omega) (fun v h1 n1 hq => ?_) (fun E h1 n1 hq => absurd hq.1 (by intro q; cases q))
  obtain ⟨hv9, hn9, hf9, hX1, f2, h31, hv0⟩ := hq
  obtain rfl := Sum.inl.inj hv9
  have hM1 := MS.sm hM (h1 := h1) (fun q q1 q2 => hf9 q (by omega) (by omega))
  have m01 := (hf9 a (by omega) (by omega)).trans m0
  have m11 := (hf9 (a + 1) (by omega) (by omega)).trans m1
  have h41 := (hf9 t (by omega) (by omega)).trans h4
  rw [← z2_id m01 m11]
  obtain ⟨⟨A2, m2⟩, ⟨S, mS, mS2⟩, ⟨U, m4, mP⟩, m5, m6, m7, m8, ⟨C9, m9⟩⟩ := id hM1
  obtain ⟨rb1, rb2, rb3⟩ := zrunO_b (g := g) (T := T) hX.2.2.2.2.2.2.2.1 her hfl
  have hlt : (zrunO g T np er fl).1.1 < 3 := rb1
  refine zs_istore (pc := 3019) (ls2 := [_, _, _, _, _, _, _, _, _]) dW_law_3019 (Nat.le_of_ble_eq_true rfl) rfl ?_
  refine zs_aload_n (pc := 3021) dW_law_3021 rfl ?_
  refine zcVQ_0 (pc := 3022) (d2 := d - 1) (s_M_run hl (by omega) m2 m4 m9 m5 m7 m8 hX.2.2.2.2.2.2.2.1 hX.2.2.2.2.2.2.2.2.1 mP hc8 hI (by omega)) dW_law_3022 kW_348 mdM_run miM_run mvM_run rfl (by first | exact z2_a | exact hx) rfl (Nat.le_of_ble_eq_true rfl) (by omega) (by omega) (by omega) (fun v h1 n1 hq => ?_) (fun E h1 n1 hq => absurd hq.1 (by intro q; cases q))
  obtain ⟨hv8, rfl, U2, C2, t16, t17, t18, t19, t20, rfl, hP2⟩ := hq
  obtain rfl := Sum.inl.inj hv8
  refine zs_istore (pc := 3025) (ls2 := [_, _, _, _, _, _, _, _, _]) dW_law_3025 (Nat.le_of_ble_eq_true rfl) rfl ?_
  refine zs_aload_n (pc := 3027) dW_law_3027 rfl ?_
  refine zcV1_0 (pc := 3028) (d2 := d - 1) (s_M_thrown hl) dW_law_3028 kW_183 mdM_thrown miM_thrown mvM_thrown rfl (by first | exact z2_a | exact hx) rfl (Nat.le_of_ble_eq_true rfl) (by omega) (by omega) (by omega) ?_
  refine zs_iload (pc := 3031) dW_law_3031 rfl ?_
  refine zs_icmp_eq (pc := 3033) 3038 dW_law_3033 rfl (fun _ => ?_) (fun h9 => absurd h9 (fun q => q rfl))
  refine zs_iload (pc := 3038) dW_law_3038 rfl ?_
  refine zs_if_ne (pc := 3040) 3055 dW_law_3040 rfl (fun hb9 => ?_) (fun hb9 => ?_)
  · refine zs_goto (pc := 3055) 3260 dW_law_3055 rfl ?_
    exact K _ _ _ _ _ _ _ _ (by omega) (by omega) (by omega) (zLI_mk ha hr ht hX1 (fun q hq => ((zu_n (by omega)).trans (zu_n (by omega))).trans (zu_n (by omega))) ⟨⟨g, by rw [zu_n (by omega), zu_n (by omega)]; exact zu_s⟩, ⟨S, by rw [zu_n (by omega), zu_n (by omega), zu_n (by omega)]; exact mS, mS2⟩, ⟨U2, zu_s, hP2⟩, by rw [zu_n (by omega), zu_n (by omega), zu_n (by omega)]; exact m5, ⟨m6.choose, by rw [zu_n (by omega), zu_n (by omega), zu_n (by omega)]; exact m6.choose_spec.1, m6.choose_spec.2⟩, by rw [zu_n (by omega), zu_n (by omega), zu_n (by omega)]; exact m7, by rw [zu_n (by omega), zu_n (by omega), zu_n (by omega)]; exact m8, ⟨C2, by rw [zu_n (by omega)]; exact zu_s⟩⟩ h31 h41 (zkc_b hc8) hLb rb2 rb3)
  · have e0 : (zrunO g T np er fl).1.1 = 0 := Decidable.byContradiction fun q => nI_ne (by omega) (by decide) q hb9
    have z0 : (nI 0).toNatClampNeg = 0 := by decide
    have em : (zrunO g T np er fl).1.2 = (zrunO g T np er fl).1.2 := rfl
    have ec : lg_cmp (f2 (nI 0).toNatClampNeg) (zrunO g T np er fl).1.2.toInt64 = 0 := by rw [z0, hv0 e0, em]; exact lg_same
    refine zs_aload_n (pc := 3043) dW_law_3043 rfl ?_
    refine zs_iconst (pc := 3044) dW_law_3044 zi_0 ?_
    refine zs_lald (pc := 3045) dW_law_3045 (by (rw [z2_n (by omega) (by omega), zu_n (by omega), zu_n (by omega), zu_n (by omega)]; exact h31)) (vp_in_nI (by decide) (by decide)) ?_
    refine zs_iload (pc := 3046) dW_law_3046 rfl ?_
    refine zs_i2l (pc := 3048) dW_law_3048 ?_
    refine zs_lcmp (pc := 3049) dW_law_3049 ?_
    refine zs_if_eq (pc := 3050) 3055 dW_law_3050 rfl (fun _ => ?_) (fun h9 => absurd h9 (fun q => q ec))
    refine zs_goto (pc := 3055) 3260 dW_law_3055 rfl ?_
    exact K _ _ _ _ _ _ _ _ (by omega) (by omega) (by omega) (zLI_mk ha hr ht hX1 (fun q hq => ((zu_n (by omega)).trans (zu_n (by omega))).trans (zu_n (by omega))) ⟨⟨g, by rw [zu_n (by omega), zu_n (by omega)]; exact zu_s⟩, ⟨S, by rw [zu_n (by omega), zu_n (by omega), zu_n (by omega)]; exact mS, mS2⟩, ⟨U2, zu_s, hP2⟩, by rw [zu_n (by omega), zu_n (by omega), zu_n (by omega)]; exact m5, ⟨m6.choose, by rw [zu_n (by omega), zu_n (by omega), zu_n (by omega)]; exact m6.choose_spec.1, m6.choose_spec.2⟩, by rw [zu_n (by omega), zu_n (by omega), zu_n (by omega)]; exact m7, by rw [zu_n (by omega), zu_n (by omega), zu_n (by omega)]; exact m8, ⟨C2, by rw [zu_n (by omega)]; exact zu_s⟩⟩ h31 h41 (zkc_b hc8) hLb rb2 rb3)
theorem sL_errorPosition {Γ : zG} {l : Launch} (hl : l.stackTraces = false) {d mc ms : Nat} (hd : 12 ≤ d) {FN : List Frame → Array Value → State → State → Prop} {x a r t n k ks i B : Nat} {h : zH} {v6 v7 v8 : Option Value} (ha : a = x + 481) (hr : r = a + 10) (ht : t = a + 11) (hB : B + 640 < 2 ^ 20) (hi : i + 4 ≤ zgL Γ) (hZ : zgL Γ < 2 ^ 31) (hk : k + 1 ≤ mc) (hks : ks + 6 ≤ ms) (hLI : zLI x a r t B h) (K : ∀ (h9 : zH) (n9 k9 ks9 B9 : Nat) (w6 w7 w8 : Option Value), k9 ≤ k + 1 → ks9 ≤ ks + 6 → B9 ≤ B + 300 → zLI x a r t B9 h9 → Z Γ l mW_law d mc ms FN 3260 [some (.ref (zgS Γ)), some (.ref x), some (.ref a), some (.ref r), some (.ref t), some (.int (nI i)), w6, w7, w8] [] h9 n9 k9 ks9) : Z Γ l mW_law d mc ms FN 3058 [some (.ref (zgS Γ)), some (.ref x), some (.ref a), some (.ref r), some (.ref t), some (.int (nI i)), v6, v7, v8] [] h n k ks := by
  obtain ⟨g, P, c, sv, er, fl, T, np, L, f0, f1, s8, s16, s17, s18, s19, s20, hX, m0, m1, hM, h3, h4, hc8, hLb, her, hfl⟩ := hLI
  have hI : IG B g := hX.2.2.1
  obtain ⟨⟨st, hst, hx, htr⟩, hXr⟩ := id hX
  refine zs_aload_n (pc := 3058) dW_law_3058 rfl ?_
  refine zs_aload_n (pc := 3059) dW_law_3059 rfl ?_
  refine zcX_2 (pc := 3060) (d2 := d - 1) (s_W_errorPosition hl (by omega) hX (by omega) her (by omega) h3) dW_law_3060 kW_349 mdW_errorPosition msW_errorPosition (by decide) (Nat.le_of_ble_eq_true rfl) (by omega) (by omega) (by omega) (fun v h1 n1 hq => ?_) (fun E h1 n1 hq => absurd hq.1 (by intro q; cases q))
  obtain ⟨hv9, hn9, hf9, hX1, f2, h31, hv0⟩ := hq
  obtain rfl := Sum.inl.inj hv9
  have hM1 := MS.sm hM (h1 := h1) (fun q q1 q2 => hf9 q (by omega) (by omega))
  have m01 := (hf9 a (by omega) (by omega)).trans m0
  have m11 := (hf9 (a + 1) (by omega) (by omega)).trans m1
  have h41 := (hf9 t (by omega) (by omega)).trans h4
  rw [← z2_id m01 m11]
  obtain ⟨⟨A2, m2⟩, ⟨S, mS, mS2⟩, ⟨U, m4, mP⟩, m5, m6, m7, m8, ⟨C9, m9⟩⟩ := id hM1
  have hlt : (aErrorPosition er).1 < 2 := by
      unfold aErrorPosition
      (repeat' split) <;> exact Nat.le_of_ble_eq_true rfl
  refine zs_istore (pc := 3063) (ls2 := [_, _, _, _, _, _, _, _, _]) dW_law_3063 (Nat.le_of_ble_eq_true rfl) rfl ?_
  refine zs_aload_n (pc := 3065) dW_law_3065 rfl ?_
  refine zcV1_0 (pc := 3066) (d2 := d - 1) (s_M_errorPosition hl (by omega) her) dW_law_3066 kW_351 mdM_errorPosition miM_errorPosition mvM_errorPosition rfl (by first | exact z2_a | exact hx) rfl (Nat.le_of_ble_eq_true rfl) (by omega) (by omega) (by omega) ?_
  refine zs_istore (pc := 3069) (ls2 := [_, _, _, _, _, _, _, _, _]) dW_law_3069 (Nat.le_of_ble_eq_true rfl) rfl ?_
  refine zs_aload_n (pc := 3071) dW_law_3071 rfl ?_
  refine zcV1_0 (pc := 3072) (d2 := d - 1) (s_M_thrown hl) dW_law_3072 kW_183 mdM_thrown miM_thrown mvM_thrown rfl (by first | exact z2_a | exact hx) rfl (Nat.le_of_ble_eq_true rfl) (by omega) (by omega) (by omega) ?_
  refine zs_iload (pc := 3075) dW_law_3075 rfl ?_
  refine zs_icmp_eq (pc := 3077) 3082 dW_law_3077 rfl (fun _ => ?_) (fun h9 => absurd h9 (fun q => q rfl))
  refine zs_iload (pc := 3082) dW_law_3082 rfl ?_
  refine zs_if_ne (pc := 3084) 3099 dW_law_3084 rfl (fun hb9 => ?_) (fun hb9 => ?_)
  · refine zs_goto (pc := 3099) 3260 dW_law_3099 rfl ?_
    exact K _ _ _ _ _ _ _ _ (by omega) (by omega) (by omega) (zLI_mk ha hr ht hX1 (fun _ _ => rfl) hM1 h31 h41 hc8 hLb her hfl)
  · have e0 : (aErrorPosition er).1 = 0 := Decidable.byContradiction fun q => nI_ne (by omega) (by decide) q hb9
    have z0 : (nI 0).toNatClampNeg = 0 := by decide
    have em : (aErrorPosition er).2 = (aErrorPosition er).2 := rfl
    have ec : lg_cmp (f2 (nI 0).toNatClampNeg) (aErrorPosition er).2.toInt64 = 0 := by rw [z0, hv0 e0, em]; exact lg_same
    refine zs_aload_n (pc := 3087) dW_law_3087 rfl ?_
    refine zs_iconst (pc := 3088) dW_law_3088 zi_0 ?_
    refine zs_lald (pc := 3089) dW_law_3089 (by (rw [z2_n (by omega) (by omega)]; exact h31)) (vp_in_nI (by decide) (by decide)) ?_
    refine zs_iload (pc := 3090) dW_law_3090 rfl ?_
    refine zs_i2l (pc := 3092) dW_law_3092 ?_
    refine zs_lcmp (pc := 3093) dW_law_3093 ?_
    refine zs_if_eq (pc := 3094) 3099 dW_law_3094 rfl (fun _ => ?_) (fun h9 => absurd h9 (fun q => q ec))
    refine zs_goto (pc := 3099) 3260 dW_law_3099 rfl ?_
    exact K _ _ _ _ _ _ _ _ (by omega) (by omega) (by omega) (zLI_mk ha hr ht hX1 (fun _ _ => rfl) hM1 h31 h41 hc8 hLb her hfl)
theorem sL_failedCommand {Γ : zG} {l : Launch} (hl : l.stackTraces = false) {d mc ms : Nat} (hd : 12 ≤ d) {FN : List Frame → Array Value → State → State → Prop} {x a r t n k ks i B : Nat} {h : zH} {v6 v7 v8 : Option Value} (ha : a = x + 481) (hr : r = a + 10) (ht : t = a + 11) (hB : B + 640 < 2 ^ 20) (hi : i + 4 ≤ zgL Γ) (hZ : zgL Γ < 2 ^ 31) (hk : k + 1 ≤ mc) (hks : ks + 6 ≤ ms) (hLI : zLI x a r t B h) (K : ∀ (h9 : zH) (n9 k9 ks9 B9 : Nat) (w6 w7 w8 : Option Value), k9 ≤ k + 1 → ks9 ≤ ks + 6 → B9 ≤ B + 300 → zLI x a r t B9 h9 → Z Γ l mW_law d mc ms FN 3260 [some (.ref (zgS Γ)), some (.ref x), some (.ref a), some (.ref r), some (.ref t), some (.int (nI i)), w6, w7, w8] [] h9 n9 k9 ks9) : Z Γ l mW_law d mc ms FN 3102 [some (.ref (zgS Γ)), some (.ref x), some (.ref a), some (.ref r), some (.ref t), some (.int (nI i)), v6, v7, v8] [] h n k ks := by
  obtain ⟨g, P, c, sv, er, fl, T, np, L, f0, f1, s8, s16, s17, s18, s19, s20, hX, m0, m1, hM, h3, h4, hc8, hLb, her, hfl⟩ := hLI
  have hI : IG B g := hX.2.2.1
  obtain ⟨⟨st, hst, hx, htr⟩, hXr⟩ := id hX
  refine zs_aload_n (pc := 3102) dW_law_3102 rfl ?_
  refine zs_aload_n (pc := 3103) dW_law_3103 rfl ?_
  refine zcX_2 (pc := 3104) (d2 := d - 1) (s_W_failedCommand hl (by omega) hX (by omega) hfl (by omega) h3) dW_law_3104 kW_352 mdW_failedCommand msW_failedCommand (by decide) (Nat.le_of_ble_eq_true rfl) (by omega) (by omega) (by omega) (fun v h1 n1 hq => ?_) (fun E h1 n1 hq => absurd hq.1 (by intro q; cases q))
  obtain ⟨hv9, hn9, hf9, hX1, f2, h31, hv0⟩ := hq
  obtain rfl := Sum.inl.inj hv9
  have hM1 := MS.sm hM (h1 := h1) (fun q q1 q2 => hf9 q (by omega) (by omega))
  have m01 := (hf9 a (by omega) (by omega)).trans m0
  have m11 := (hf9 (a + 1) (by omega) (by omega)).trans m1
  have h41 := (hf9 t (by omega) (by omega)).trans h4
  rw [← z2_id m01 m11]
  obtain ⟨⟨A2, m2⟩, ⟨S, mS, mS2⟩, ⟨U, m4, mP⟩, m5, m6, m7, m8, ⟨C9, m9⟩⟩ := id hM1
  have hlt : (aFailedCommand fl).1 < 2 := by
      unfold aFailedCommand
      (repeat' split) <;> exact Nat.le_of_ble_eq_true rfl
  refine zs_istore (pc := 3107) (ls2 := [_, _, _, _, _, _, _, _, _]) dW_law_3107 (Nat.le_of_ble_eq_true rfl) rfl ?_
  refine zs_aload_n (pc := 3109) dW_law_3109 rfl ?_
  refine zcV1_0 (pc := 3110) (d2 := d - 1) (s_M_failedCommand hl (by omega) hfl) dW_law_3110 kW_354 mdM_failedCommand miM_failedCommand mvM_failedCommand rfl (by first | exact z2_a | exact hx) rfl (Nat.le_of_ble_eq_true rfl) (by omega) (by omega) (by omega) ?_
  refine zs_istore (pc := 3113) (ls2 := [_, _, _, _, _, _, _, _, _]) dW_law_3113 (Nat.le_of_ble_eq_true rfl) rfl ?_
  refine zs_aload_n (pc := 3115) dW_law_3115 rfl ?_
  refine zcV1_0 (pc := 3116) (d2 := d - 1) (s_M_thrown hl) dW_law_3116 kW_183 mdM_thrown miM_thrown mvM_thrown rfl (by first | exact z2_a | exact hx) rfl (Nat.le_of_ble_eq_true rfl) (by omega) (by omega) (by omega) ?_
  refine zs_iload (pc := 3119) dW_law_3119 rfl ?_
  refine zs_icmp_eq (pc := 3121) 3126 dW_law_3121 rfl (fun _ => ?_) (fun h9 => absurd h9 (fun q => q rfl))
  refine zs_iload (pc := 3126) dW_law_3126 rfl ?_
  refine zs_if_ne (pc := 3128) 3143 dW_law_3128 rfl (fun hb9 => ?_) (fun hb9 => ?_)
  · refine zs_goto (pc := 3143) 3260 dW_law_3143 rfl ?_
    exact K _ _ _ _ _ _ _ _ (by omega) (by omega) (by omega) (zLI_mk ha hr ht hX1 (fun _ _ => rfl) hM1 h31 h41 hc8 hLb her hfl)
  · have e0 : (aFailedCommand fl).1 = 0 := Decidable.byContradiction fun q => nI_ne (by omega) (by decide) q hb9
    have z0 : (nI 0).toNatClampNeg = 0 := by decide
    have em : (aFailedCommand fl).2 = (aFailedCommand fl).2 := rfl
    have ec : lg_cmp (f2 (nI 0).toNatClampNeg) (aFailedCommand fl).2.toInt64 = 0 := by rw [z0, hv0 e0, em]; exact lg_same
    refine zs_aload_n (pc := 3131) dW_law_3131 rfl ?_
    refine zs_iconst (pc := 3132) dW_law_3132 zi_0 ?_
    refine zs_lald (pc := 3133) dW_law_3133 (by (rw [z2_n (by omega) (by omega)]; exact h31)) (vp_in_nI (by decide) (by decide)) ?_
    refine zs_iload (pc := 3134) dW_law_3134 rfl ?_
    refine zs_i2l (pc := 3136) dW_law_3136 ?_
    refine zs_lcmp (pc := 3137) dW_law_3137 ?_
    refine zs_if_eq (pc := 3138) 3143 dW_law_3138 rfl (fun _ => ?_) (fun h9 => absurd h9 (fun q => q ec))
    refine zs_goto (pc := 3143) 3260 dW_law_3143 rfl ?_
    exact K _ _ _ _ _ _ _ _ (by omega) (by omega) (by omega) (zLI_mk ha hr ht hX1 (fun _ _ => rfl) hM1 h31 h41 hc8 hLb her hfl)
theorem sL_undoableCount {Γ : zG} {l : Launch} (hl : l.stackTraces = false) {d mc ms : Nat} (hd : 12 ≤ d) {FN : List Frame → Array Value → State → State → Prop} {x a r t n k ks i B : Nat} {h : zH} {v6 v7 v8 : Option Value} (ha : a = x + 481) (hr : r = a + 10) (ht : t = a + 11) (hB : B + 640 < 2 ^ 20) (hi : i + 4 ≤ zgL Γ) (hZ : zgL Γ < 2 ^ 31) (hk : k + 1 ≤ mc) (hks : ks + 6 ≤ ms) (hLI : zLI x a r t B h) (K : ∀ (h9 : zH) (n9 k9 ks9 B9 : Nat) (w6 w7 w8 : Option Value), k9 ≤ k + 1 → ks9 ≤ ks + 6 → B9 ≤ B + 300 → zLI x a r t B9 h9 → Z Γ l mW_law d mc ms FN 3260 [some (.ref (zgS Γ)), some (.ref x), some (.ref a), some (.ref r), some (.ref t), some (.int (nI i)), w6, w7, w8] [] h9 n9 k9 ks9) : Z Γ l mW_law d mc ms FN 3146 [some (.ref (zgS Γ)), some (.ref x), some (.ref a), some (.ref r), some (.ref t), some (.int (nI i)), v6, v7, v8] [] h n k ks := by
  obtain ⟨g, P, c, sv, er, fl, T, np, L, f0, f1, s8, s16, s17, s18, s19, s20, hX, m0, m1, hM, h3, h4, hc8, hLb, her, hfl⟩ := hLI
  have hI : IG B g := hX.2.2.1
  obtain ⟨⟨st, hst, hx, htr⟩, hXr⟩ := id hX
  refine zs_aload_n (pc := 3146) dW_law_3146 rfl ?_
  refine zcVQ_0 (pc := 3147) (d2 := d - 1) (s_X_undoableCount hl hX) dW_law_3147 kW_355 mdX_undoableCount miX_undoableCount mvX_undoableCount rfl (by first | exact z2_a | exact hx) rfl (Nat.le_of_ble_eq_true rfl) (by omega) (by omega) (by omega) (fun v h1 n1 hq => ?_) (fun E h1 n1 hq => ?_)
  rotate_left
  · exact absurd rfl hq.1.r.1
  obtain ⟨hq1, hf9, hX1⟩ := hq
  obtain ⟨-, rfl, rfl⟩ := hq1.l
  have hM1 := MS.sm hM (h1 := h1) (fun q q1 q2 => hf9 q (by omega))
  have m01 := (hf9 a (by omega)).trans m0
  have m11 := (hf9 (a + 1) (by omega)).trans m1
  have h41 := (hf9 t (by omega)).trans h4
  rw [← z2_id m01 m11]
  obtain ⟨⟨A2, m2⟩, ⟨S, mS, mS2⟩, ⟨U, m4, mP⟩, m5, m6, m7, m8, ⟨C9, m9⟩⟩ := id hM1
  have h31 := (hf9 r (by omega)).trans h3
  refine zs_aload_n (pc := 3150) dW_law_3150 rfl ?_
  refine zcV1_0 (pc := 3151) (d2 := d - 1) (s_M_undoableCount hl) dW_law_3151 kW_358 mdM_undoableCount miM_undoableCount mvM_undoableCount rfl (by first | exact z2_a | exact hx) rfl (Nat.le_of_ble_eq_true rfl) (by omega) (by omega) (by omega) ?_
  refine zs_icmp_eq (pc := 3154) 3260 dW_law_3154 rfl (fun _ => ?_) (fun h9 => absurd h9 (fun q => q rfl))
  exact K _ _ _ _ _ _ _ _ (by omega) (by omega) (by omega) (zLI_mk ha hr ht hX1 (fun _ _ => rfl) hM1 h31 h41 hc8 hLb her hfl)
theorem sL_undo {Γ : zG} {l : Launch} (hl : l.stackTraces = false) {d mc ms : Nat} (hd : 12 ≤ d) {FN : List Frame → Array Value → State → State → Prop} {x a r t n k ks i B : Nat} {h : zH} {v6 v7 v8 : Option Value} (ha : a = x + 481) (hr : r = a + 10) (ht : t = a + 11) (hB : B + 640 < 2 ^ 20) (hi : i + 4 ≤ zgL Γ) (hZ : zgL Γ < 2 ^ 31) (hk : k + 1 ≤ mc) (hks : ks + 6 ≤ ms) (hLI : zLI x a r t B h) (K : ∀ (h9 : zH) (n9 k9 ks9 B9 : Nat) (w6 w7 w8 : Option Value), k9 ≤ k + 1 → ks9 ≤ ks + 6 → B9 ≤ B + 300 → zLI x a r t B9 h9 → Z Γ l mW_law d mc ms FN 3260 [some (.ref (zgS Γ)), some (.ref x), some (.ref a), some (.ref r), some (.ref t), some (.int (nI i)), w6, w7, w8] [] h9 n9 k9 ks9) : Z Γ l mW_law d mc ms FN 3159 [some (.ref (zgS Γ)), some (.ref x), some (.ref a), some (.ref r), some (.ref t), some (.int (nI i)), v6, v7, v8] [] h n k ks := by
  obtain ⟨g, P, c, sv, er, fl, T, np, L, f0, f1, s8, s16, s17, s18, s19, s20, hX, m0, m1, hM, h3, h4, hc8, hLb, her, hfl⟩ := hLI
  have hI : IG B g := hX.2.2.1
  obtain ⟨⟨st, hst, hx, htr⟩, hXr⟩ := id hX
  refine zs_aload_n (pc := 3159) dW_law_3159 rfl ?_
  refine zs_aload_n (pc := 3160) dW_law_3160 rfl ?_
  refine zcX_2 (pc := 3161) (d2 := d - 1) (s_W_undo hl (by omega) hX (by omega)  (by omega) h3) dW_law_3161 kW_359 mdW_undo msW_undo (by decide) (Nat.le_of_ble_eq_true rfl) (by omega) (by omega) (by omega) (fun v h1 n1 hq => ?_) (fun E h1 n1 hq => absurd hq.1 (by intro q; cases q))
  obtain ⟨hv9, hn9, hf9, hX1, f2, h31, hv0⟩ := hq
  obtain rfl := Sum.inl.inj hv9
  have hM1 := MS.sm hM (h1 := h1) (fun q q1 q2 => hf9 q (by omega) (by omega))
  have m01 := (hf9 a (by omega) (by omega)).trans m0
  have m11 := (hf9 (a + 1) (by omega) (by omega)).trans m1
  have h41 := (hf9 t (by omega) (by omega)).trans h4
  rw [← z2_id m01 m11]
  obtain ⟨⟨A2, m2⟩, ⟨S, mS, mS2⟩, ⟨U, m4, mP⟩, m5, m6, m7, m8, ⟨C9, m9⟩⟩ := id hM1
  have hlt : (aUndo c).1 < 2 := by
      unfold aUndo
      (repeat' split) <;> exact Nat.le_of_ble_eq_true rfl
  refine zs_istore (pc := 3164) (ls2 := [_, _, _, _, _, _, _, _, _]) dW_law_3164 (Nat.le_of_ble_eq_true rfl) rfl ?_
  refine zs_aload_n (pc := 3166) dW_law_3166 rfl ?_
  refine zcV1_0 (pc := 3167) (d2 := d - 1) (s_M_undo hl (by omega) m4 mP hc8) dW_law_3167 kW_361 mdM_undo miM_undo mvM_undo rfl (by first | exact z2_a | exact hx) rfl (Nat.le_of_ble_eq_true rfl) (by omega) (by omega) (by omega) ?_
  refine zs_istore (pc := 3170) (ls2 := [_, _, _, _, _, _, _, _, _]) dW_law_3170 (Nat.le_of_ble_eq_true rfl) rfl ?_
  refine zs_aload_n (pc := 3172) dW_law_3172 rfl ?_
  refine zcV1_0 (pc := 3173) (d2 := d - 1) (s_M_thrown hl) dW_law_3173 kW_183 mdM_thrown miM_thrown mvM_thrown rfl (by first | exact z2_a | exact hx) rfl (Nat.le_of_ble_eq_true rfl) (by omega) (by omega) (by omega) ?_
  refine zs_iload (pc := 3176) dW_law_3176 rfl ?_
  refine zs_icmp_eq (pc := 3178) 3183 dW_law_3178 rfl (fun _ => ?_) (fun h9 => absurd h9 (fun q => q rfl))
  refine zs_iload (pc := 3183) dW_law_3183 rfl ?_
  refine zs_if_ne (pc := 3185) 3200 dW_law_3185 rfl (fun hb9 => ?_) (fun hb9 => ?_)
  · refine zs_goto (pc := 3200) 3260 dW_law_3200 rfl ?_
    exact K _ _ _ _ _ _ _ _ (by omega) (by omega) (by omega) (zLI_mk ha hr ht hX1 (fun _ _ => rfl) ⟨⟨A2, m2⟩, ⟨S, mS, mS2⟩, ⟨U, m4, fun k hk => mP k (by omega)⟩, m5, m6, m7, m8, ⟨C9, m9⟩⟩ h31 h41 (by omega) hLb her hfl)
  · have e0 : (aUndo c).1 = 0 := Decidable.byContradiction fun q => nI_ne (by omega) (by decide) q hb9
    have z0 : (nI 0).toNatClampNeg = 0 := by decide
    have em : (aUndo c).2 = (aUndo c).2 := rfl
    have ec : lg_cmp (f2 (nI 0).toNatClampNeg) (aUndo c).2.toInt64 = 0 := by rw [z0, hv0 e0, em]; exact lg_same
    refine zs_aload_n (pc := 3188) dW_law_3188 rfl ?_
    refine zs_iconst (pc := 3189) dW_law_3189 zi_0 ?_
    refine zs_lald (pc := 3190) dW_law_3190 (by (rw [z2_n (by omega) (by omega)]; exact h31)) (vp_in_nI (by decide) (by decide)) ?_
    refine zs_iload (pc := 3191) dW_law_3191 rfl ?_
    refine zs_i2l (pc := 3193) dW_law_3193 ?_
    refine zs_lcmp (pc := 3194) dW_law_3194 ?_
    refine zs_if_eq (pc := 3195) 3200 dW_law_3195 rfl (fun _ => ?_) (fun h9 => absurd h9 (fun q => q ec))
    refine zs_goto (pc := 3200) 3260 dW_law_3200 rfl ?_
    exact K _ _ _ _ _ _ _ _ (by omega) (by omega) (by omega) (zLI_mk ha hr ht hX1 (fun _ _ => rfl) ⟨⟨A2, m2⟩, ⟨S, mS, mS2⟩, ⟨U, m4, fun k hk => mP k (by omega)⟩, m5, m6, m7, m8, ⟨C9, m9⟩⟩ h31 h41 (by omega) hLb her hfl)
theorem sL_save {Γ : zG} {l : Launch} (hl : l.stackTraces = false) {d mc ms : Nat} (hd : 12 ≤ d) {FN : List Frame → Array Value → State → State → Prop} {x a r t n k ks i B : Nat} {h : zH} {v6 v7 v8 : Option Value} (ha : a = x + 481) (hr : r = a + 10) (ht : t = a + 11) (hB : B + 640 < 2 ^ 20) (hi : i + 4 ≤ zgL Γ) (hZ : zgL Γ < 2 ^ 31) (hk : k + 1 ≤ mc) (hks : ks + 6 ≤ ms) (hLI : zLI x a r t B h) (K : ∀ (h9 : zH) (n9 k9 ks9 B9 : Nat) (w6 w7 w8 : Option Value), k9 ≤ k + 1 → ks9 ≤ ks + 6 → B9 ≤ B + 300 → zLI x a r t B9 h9 → Z Γ l mW_law d mc ms FN 3260 [some (.ref (zgS Γ)), some (.ref x), some (.ref a), some (.ref r), some (.ref t), some (.int (nI i)), w6, w7, w8] [] h9 n9 k9 ks9) : Z Γ l mW_law d mc ms FN 3203 [some (.ref (zgS Γ)), some (.ref x), some (.ref a), some (.ref r), some (.ref t), some (.int (nI i)), v6, v7, v8] [] h n k ks := by
  obtain ⟨g, P, c, sv, er, fl, T, np, L, f0, f1, s8, s16, s17, s18, s19, s20, hX, m0, m1, hM, h3, h4, hc8, hLb, her, hfl⟩ := hLI
  have hI : IG B g := hX.2.2.1
  obtain ⟨⟨st, hst, hx, htr⟩, hXr⟩ := id hX
  refine zs_aload_n (pc := 3203) dW_law_3203 rfl ?_
  refine zcVQ_0 (pc := 3204) (d2 := d - 1) (s_X_save hl (by omega) hX (by omega)) dW_law_3204 kW_362 mdX_save miX_save mvX_save rfl (by first | exact z2_a | exact hx) rfl (Nat.le_of_ble_eq_true rfl) (by omega) (by omega) (by omega) (fun v h1 n1 hq => ?_) (fun E h1 n1 hq => ?_)
  rotate_left
  · exact absurd rfl hq.1.r.1
  obtain ⟨hq1, hf9, hX1⟩ := hq
  obtain ⟨-, rfl, rfl⟩ := hq1.l
  have hM1 := MS.sm hM (h1 := h1) (fun q q1 q2 => hf9 q (by omega))
  have m01 := (hf9 a (by omega)).trans m0
  have m11 := (hf9 (a + 1) (by omega)).trans m1
  have h41 := (hf9 t (by omega)).trans h4
  rw [← z2_id m01 m11]
  obtain ⟨⟨A2, m2⟩, ⟨S, mS, mS2⟩, ⟨U, m4, mP⟩, m5, m6, m7, m8, ⟨C9, m9⟩⟩ := id hM1
  have h31 := (hf9 r (by omega)).trans h3
  refine zs_aload_n (pc := 3207) dW_law_3207 rfl ?_
  refine zcV1_0 (pc := 3208) (d2 := d - 1) (s_M_save hl mS) dW_law_3208 kW_365 mdM_save miM_save mvM_save rfl (by first | exact z2_a | exact hx) rfl (Nat.le_of_ble_eq_true rfl) (by omega) (by omega) (by omega) ?_
  refine zs_icmp_eq (pc := 3211) 3260 dW_law_3211 rfl (fun _ => ?_) (fun h9 => absurd h9 (fun q => q rfl))
  exact K _ _ _ _ _ _ _ _ (by omega) (by omega) (by omega) (zLI_mk ha hr ht hX1 (fun q hq => zu_n (by omega)) ⟨⟨A2, by rw [zu_n (by omega)]; exact m2⟩, ⟨g, zu_s, fun s e j hj => by obtain rfl := Option.some.inj e; rfl⟩, ⟨U, by rw [zu_n (by omega)]; exact m4, mP⟩, by rw [zu_n (by omega)]; exact m5, ⟨m6.choose, by rw [zu_n (by omega)]; exact m6.choose_spec.1, m6.choose_spec.2⟩, by rw [zu_n (by omega)]; exact m7, by rw [zu_n (by omega)]; exact m8, ⟨C9, by rw [zu_n (by omega)]; exact m9⟩⟩ h31 h41 hc8 hLb her hfl)
theorem sL_restore {Γ : zG} {l : Launch} (hl : l.stackTraces = false) {d mc ms : Nat} (hd : 12 ≤ d) {FN : List Frame → Array Value → State → State → Prop} {x a r t n k ks i B : Nat} {h : zH} {v6 v7 v8 : Option Value} (ha : a = x + 481) (hr : r = a + 10) (ht : t = a + 11) (hB : B + 640 < 2 ^ 20) (hi : i + 4 ≤ zgL Γ) (hZ : zgL Γ < 2 ^ 31) (hk : k + 1 ≤ mc) (hks : ks + 6 ≤ ms) (hLI : zLI x a r t B h) (K : ∀ (h9 : zH) (n9 k9 ks9 B9 : Nat) (w6 w7 w8 : Option Value), k9 ≤ k + 1 → ks9 ≤ ks + 6 → B9 ≤ B + 300 → zLI x a r t B9 h9 → Z Γ l mW_law d mc ms FN 3260 [some (.ref (zgS Γ)), some (.ref x), some (.ref a), some (.ref r), some (.ref t), some (.int (nI i)), w6, w7, w8] [] h9 n9 k9 ks9) : Z Γ l mW_law d mc ms FN 3216 [some (.ref (zgS Γ)), some (.ref x), some (.ref a), some (.ref r), some (.ref t), some (.int (nI i)), v6, v7, v8] [] h n k ks := by
  obtain ⟨g, P, c, sv, er, fl, T, np, L, f0, f1, s8, s16, s17, s18, s19, s20, hX, m0, m1, hM, h3, h4, hc8, hLb, her, hfl⟩ := hLI
  have hI : IG B g := hX.2.2.1
  obtain ⟨⟨st, hst, hx, htr⟩, hXr⟩ := id hX
  refine zs_aload_n (pc := 3216) dW_law_3216 rfl ?_
  refine zs_aload_n (pc := 3217) dW_law_3217 rfl ?_
  refine zcX_2 (pc := 3218) (d2 := d - 1) (s_W_restore hl (by omega) hX (by omega)  (by omega) h3) dW_law_3218 kW_366 mdW_restore msW_restore (by decide) (Nat.le_of_ble_eq_true rfl) (by omega) (by omega) (by omega) (fun v h1 n1 hq => ?_) (fun E h1 n1 hq => absurd hq.1 (by intro q; cases q))
  obtain ⟨hv9, hn9, hf9, hX1, f2, h31, hv0⟩ := hq
  obtain rfl := Sum.inl.inj hv9
  have hM1 := MS.sm hM (h1 := h1) (fun q q1 q2 => hf9 q (by omega) (by omega))
  have m01 := (hf9 a (by omega) (by omega)).trans m0
  have m11 := (hf9 (a + 1) (by omega) (by omega)).trans m1
  have h41 := (hf9 t (by omega) (by omega)).trans h4
  rw [← z2_id m01 m11]
  obtain ⟨⟨A2, m2⟩, ⟨S, mS, mS2⟩, ⟨U, m4, mP⟩, m5, m6, m7, m8, ⟨C9, m9⟩⟩ := id hM1
  have hlt : (aRest sv).1 < 2 := by
      unfold aRest
      (repeat' split) <;> exact Nat.le_of_ble_eq_true rfl
  refine zs_istore (pc := 3221) (ls2 := [_, _, _, _, _, _, _, _, _]) dW_law_3221 (Nat.le_of_ble_eq_true rfl) rfl ?_
  refine zs_aload_n (pc := 3223) dW_law_3223 rfl ?_
  refine zcV1_0 (pc := 3224) (d2 := d - 1) (s_M_restore hl (by omega) mS mS2) dW_law_3224 kW_368 mdM_restore miM_restore mvM_restore rfl (by first | exact z2_a | exact hx) rfl (Nat.le_of_ble_eq_true rfl) (by omega) (by omega) (by omega) ?_
  refine zs_istore (pc := 3227) (ls2 := [_, _, _, _, _, _, _, _, _]) dW_law_3227 (Nat.le_of_ble_eq_true rfl) rfl ?_
  refine zs_aload_n (pc := 3229) dW_law_3229 rfl ?_
  refine zcV1_0 (pc := 3230) (d2 := d - 1) (s_M_thrown hl) dW_law_3230 kW_183 mdM_thrown miM_thrown mvM_thrown rfl (by first | exact z2_a | exact hx) rfl (Nat.le_of_ble_eq_true rfl) (by omega) (by omega) (by omega) ?_
  refine zs_iload (pc := 3233) dW_law_3233 rfl ?_
  refine zs_icmp_eq (pc := 3235) 3240 dW_law_3235 rfl (fun _ => ?_) (fun h9 => absurd h9 (fun q => q rfl))
  refine zs_iload (pc := 3240) dW_law_3240 rfl ?_
  refine zs_if_ne (pc := 3242) 3257 dW_law_3242 rfl (fun hb9 => ?_) (fun hb9 => ?_)
  · refine zs_goto (pc := 3257) 3260 dW_law_3257 rfl ?_
    exact K _ _ _ _ _ _ _ _ (by omega) (by omega) (by omega) (zLI_mk ha hr ht hX1 (fun _ _ => rfl) ⟨⟨A2, m2⟩, ⟨S, mS, mS2⟩, ⟨U, m4, fun k hk => mP k (by revert hk; split <;> omega)⟩, m5, m6, m7, m8, ⟨C9, m9⟩⟩ h31 h41 (by split <;> omega) hLb her hfl)
  · have e0 : (aRest sv).1 = 0 := Decidable.byContradiction fun q => nI_ne (by omega) (by decide) q hb9
    have z0 : (nI 0).toNatClampNeg = 0 := by decide
    have em : (aRest sv).2 = (aRest sv).2 := rfl
    have ec : lg_cmp (f2 (nI 0).toNatClampNeg) (aRest sv).2.toInt64 = 0 := by rw [z0, hv0 e0, em]; exact lg_same
    refine zs_aload_n (pc := 3245) dW_law_3245 rfl ?_
    refine zs_iconst (pc := 3246) dW_law_3246 zi_0 ?_
    refine zs_lald (pc := 3247) dW_law_3247 (by (rw [z2_n (by omega) (by omega)]; exact h31)) (vp_in_nI (by decide) (by decide)) ?_
    refine zs_iload (pc := 3248) dW_law_3248 rfl ?_
    refine zs_i2l (pc := 3250) dW_law_3250 ?_
    refine zs_lcmp (pc := 3251) dW_law_3251 ?_
    refine zs_if_eq (pc := 3252) 3257 dW_law_3252 rfl (fun _ => ?_) (fun h9 => absurd h9 (fun q => q ec))
    refine zs_goto (pc := 3257) 3260 dW_law_3257 rfl ?_
    exact K _ _ _ _ _ _ _ _ (by omega) (by omega) (by omega) (zLI_mk ha hr ht hX1 (fun _ _ => rfl) ⟨⟨A2, m2⟩, ⟨S, mS, mS2⟩, ⟨U, m4, fun k hk => mP k (by revert hk; split <;> omega)⟩, m5, m6, m7, m8, ⟨C9, m9⟩⟩ h31 h41 (by split <;> omega) hLb her hfl)

