/-! the law: the steps, 0 -/
theorem zi2c {v : Int32} : (v.toUInt32 % 65536).toInt32 = nI (v.toUInt32.toNat % 65536) := by
  have h : (v.toUInt32 % 65536).toNat = v.toUInt32.toNat % 65536 := UInt32.toNat_mod _ _
  rw [← h]
  show _ = (UInt32.ofNat (v.toUInt32 % 65536).toNat).toInt32
  rw [UInt32.ofNat_toNat]
theorem sL_addEntry {Γ : zG} {l : Launch} (hl : l.stackTraces = false) {d mc ms : Nat} (hd : 12 ≤ d) {FN : List Frame → Array Value → State → State → Prop} {x a r t n k ks i B : Nat} {h : zH} {v6 v7 v8 : Option Value} (ha : a = x + 481) (hr : r = a + 10) (ht : t = a + 11) (hB : B + 640 < 2 ^ 20) (hi : i + 4 ≤ zgL Γ) (hZ : zgL Γ < 2 ^ 31) (hk : k + 1 ≤ mc) (hks : ks + 6 ≤ ms) (hLI : zLI x a r t B h) (K : ∀ (h9 : zH) (n9 k9 ks9 B9 : Nat) (w6 w7 w8 : Option Value), k9 ≤ k + 1 → ks9 ≤ ks + 6 → B9 ≤ B + 300 → zLI x a r t B9 h9 → Z Γ l mW_law d mc ms FN 3260 [some (.ref (zgS Γ)), some (.ref x), some (.ref a), some (.ref r), some (.ref t), some (.int (nI i)), w6, w7, w8] [] h9 n9 k9 ks9) : Z Γ l mW_law d mc ms FN 288 [some (.ref (zgS Γ)), some (.ref x), some (.ref a), some (.ref r), some (.ref t), some (.int (nI i)), v6, v7, v8] [] h n k ks := by
  obtain ⟨g, P, c, sv, er, fl, T, np, L, f0, f1, s8, s16, s17, s18, s19, s20, hX, m0, m1, hM, h3, h4, hc8, hLb, her, hfl⟩ := hLI
  have hI : IG B g := hX.2.2.1
  obtain ⟨⟨st, hst, hx, htr⟩, hXr⟩ := id hX
  refine zs_aload_n (pc := 288) dW_law_288 rfl ?_
  refine zs_aload_n (pc := 289) dW_law_289 rfl ?_
  refine zs_iload (pc := 290) dW_law_290 rfl ?_
  refine zs_iconst (pc := 292) dW_law_292 zi_1 ?_
  refine zn_iadd (pc := 293) dW_law_293 ?_
  refine zs_sld (pc := 294) dW_law_294 (vp_in_nI (by omega) (by omega)) ?_
  refine zs_aload_n (pc := 295) dW_law_295 rfl ?_
  refine zcX_3 (pc := 296) (d2 := d - 1) (s_W_addEntry hl (by omega) hX (by omega) _ (by omega) h3) dW_law_296 kW_177 mdW_addEntry msW_addEntry (by decide) (Nat.le_of_ble_eq_true rfl) (by omega) (by omega) (by omega) (fun v h1 n1 hq => ?_) (fun E h1 n1 hq => absurd hq.1 (by intro q; cases q))
  obtain ⟨hv9, hn9, hf9, hX1, f2, h31, hv0⟩ := hq
  obtain rfl := Sum.inl.inj hv9
  have hM1 := MS.sm hM (h1 := h1) (fun q q1 q2 => hf9 q (by omega) (by omega))
  have m01 := (hf9 a (by omega) (by omega)).trans m0
  have m11 := (hf9 (a + 1) (by omega) (by omega)).trans m1
  have h41 := (hf9 t (by omega) (by omega)).trans h4
  rw [← z2_id m01 m11]
  obtain ⟨⟨A2, m2⟩, ⟨S, mS, mS2⟩, ⟨U, m4, mP⟩, m5, m6, m7, m8, ⟨C9, m9⟩⟩ := id hM1
  have hlt : (zdo g 0 (zgX Γ (nI (i + 1)).toNatClampNeg) (nI 0)).1 < 3 := (zdo_lim (g := g) (k := 0) (by decide) _ _).1
  refine zs_istore (pc := 299) (ls2 := [_, _, _, _, _, _, _, _, _]) dW_law_299 (Nat.le_of_ble_eq_true rfl) rfl ?_
  refine zs_aload_n (pc := 301) dW_law_301 rfl ?_
  refine zs_aload_n (pc := 302) dW_law_302 rfl ?_
  refine zs_iload (pc := 303) dW_law_303 rfl ?_
  refine zs_iconst (pc := 305) dW_law_305 zi_1 ?_
  refine zn_iadd (pc := 306) dW_law_306 ?_
  refine zs_sld (pc := 307) dW_law_307 (vp_in_nI (by omega) (by omega)) ?_
  refine zcVQ_1 (pc := 308) (d2 := d - 1) (s_M_addEntry hl (by omega) m2 m4 mP hc8 hI (by omega) _) dW_law_308 kW_182 mdM_addEntry miM_addEntry mvM_addEntry rfl (by first | exact z2_a | exact hx) rfl (Nat.le_of_ble_eq_true rfl) (by omega) (by omega) (by omega) (fun v h1 n1 hq => ?_) (fun E h1 n1 hq => absurd hq.1 (by intro q; cases q))
  obtain ⟨hv8, rfl, U2, rfl, hP2⟩ := hq
  obtain rfl := Sum.inl.inj hv8
  refine zs_istore (pc := 311) (ls2 := [_, _, _, _, _, _, _, _, _]) dW_law_311 (Nat.le_of_ble_eq_true rfl) rfl ?_
  refine zs_aload_n (pc := 313) dW_law_313 rfl ?_
  refine zcV1_0 (pc := 314) (d2 := d - 1) (s_M_thrown hl) dW_law_314 kW_183 mdM_thrown miM_thrown mvM_thrown rfl (by first | exact z2_a | exact hx) rfl (Nat.le_of_ble_eq_true rfl) (by omega) (by omega) (by omega) ?_
  refine zs_iload (pc := 317) dW_law_317 rfl ?_
  refine zs_icmp_eq (pc := 319) 324 dW_law_319 rfl (fun _ => ?_) (fun h9 => absurd h9 (fun q => q rfl))
  refine zs_iload (pc := 324) dW_law_324 rfl ?_
  refine zs_if_ne (pc := 326) 341 dW_law_326 rfl (fun hb9 => ?_) (fun hb9 => ?_)
  · refine zs_goto (pc := 341) 3260 dW_law_341 rfl ?_
    exact K _ _ _ _ _ _ _ _ (by omega) (by omega) (by omega) (zLI_mk ha hr ht hX1 (fun q hq => (zu_n (by omega)).trans (zu_n (by omega))) ⟨⟨g, by rw [zu_n (by omega)]; exact zu_s⟩, ⟨S, by rw [zu_n (by omega), zu_n (by omega)]; exact mS, mS2⟩, ⟨U2, zu_s, hP2⟩, by rw [zu_n (by omega), zu_n (by omega)]; exact m5, ⟨m6.choose, by rw [zu_n (by omega), zu_n (by omega)]; exact m6.choose_spec.1, m6.choose_spec.2⟩, by rw [zu_n (by omega), zu_n (by omega)]; exact m7, by rw [zu_n (by omega), zu_n (by omega)]; exact m8, ⟨C9, by rw [zu_n (by omega), zu_n (by omega)]; exact m9⟩⟩ h31 h41 (zkc_b hc8) hLb her hfl)
  · have e0 : (zdo g 0 (zgX Γ (nI (i + 1)).toNatClampNeg) (nI 0)).1 = 0 := Decidable.byContradiction fun q => nI_ne (by omega) (by decide) q hb9
    have z0 : (nI 0).toNatClampNeg = 0 := by decide
    have em : (zma (zdo g 0 (zgX Γ (nI (i + 1)).toNatClampNeg) (nI 0))) = (zans 0 (zdo g 0 (zgX Γ (nI (i + 1)).toNatClampNeg) (nI 0))) := by unfold zma zans; rw [if_pos e0, if_pos e0]
    have ec : lg_cmp (f2 (nI 0).toNatClampNeg) (zma (zdo g 0 (zgX Γ (nI (i + 1)).toNatClampNeg) (nI 0))).toInt64 = 0 := by rw [z0, hv0 e0, em]; exact lg_same
    refine zs_aload_n (pc := 329) dW_law_329 rfl ?_
    refine zs_iconst (pc := 330) dW_law_330 zi_0 ?_
    refine zs_lald (pc := 331) dW_law_331 (by (rw [z2_n (by omega) (by omega), zu_n (by omega), zu_n (by omega)]; exact h31)) (vp_in_nI (by decide) (by decide)) ?_
    refine zs_iload (pc := 332) dW_law_332 rfl ?_
    refine zs_i2l (pc := 334) dW_law_334 ?_
    refine zs_lcmp (pc := 335) dW_law_335 ?_
    refine zs_if_eq (pc := 336) 341 dW_law_336 rfl (fun _ => ?_) (fun h9 => absurd h9 (fun q => q ec))
    refine zs_goto (pc := 341) 3260 dW_law_341 rfl ?_
    exact K _ _ _ _ _ _ _ _ (by omega) (by omega) (by omega) (zLI_mk ha hr ht hX1 (fun q hq => (zu_n (by omega)).trans (zu_n (by omega))) ⟨⟨g, by rw [zu_n (by omega)]; exact zu_s⟩, ⟨S, by rw [zu_n (by omega), zu_n (by omega)]; exact mS, mS2⟩, ⟨U2, zu_s, hP2⟩, by rw [zu_n (by omega), zu_n (by omega)]; exact m5, ⟨m6.choose, by rw [zu_n (by omega), zu_n (by omega)]; exact m6.choose_spec.1, m6.choose_spec.2⟩, by rw [zu_n (by omega), zu_n (by omega)]; exact m7, by rw [zu_n (by omega), zu_n (by omega)]; exact m8, ⟨C9, by rw [zu_n (by omega), zu_n (by omega)]; exact m9⟩⟩ h31 h41 (zkc_b hc8) hLb her hfl)
theorem sL_addCode {Γ : zG} {l : Launch} (hl : l.stackTraces = false) {d mc ms : Nat} (hd : 12 ≤ d) {FN : List Frame → Array Value → State → State → Prop} {x a r t n k ks i B : Nat} {h : zH} {v6 v7 v8 : Option Value} (ha : a = x + 481) (hr : r = a + 10) (ht : t = a + 11) (hB : B + 640 < 2 ^ 20) (hi : i + 4 ≤ zgL Γ) (hZ : zgL Γ < 2 ^ 31) (hk : k + 1 ≤ mc) (hks : ks + 6 ≤ ms) (hLI : zLI x a r t B h) (K : ∀ (h9 : zH) (n9 k9 ks9 B9 : Nat) (w6 w7 w8 : Option Value), k9 ≤ k + 1 → ks9 ≤ ks + 6 → B9 ≤ B + 300 → zLI x a r t B9 h9 → Z Γ l mW_law d mc ms FN 3260 [some (.ref (zgS Γ)), some (.ref x), some (.ref a), some (.ref r), some (.ref t), some (.int (nI i)), w6, w7, w8] [] h9 n9 k9 ks9) : Z Γ l mW_law d mc ms FN 344 [some (.ref (zgS Γ)), some (.ref x), some (.ref a), some (.ref r), some (.ref t), some (.int (nI i)), v6, v7, v8] [] h n k ks := by
  obtain ⟨g, P, c, sv, er, fl, T, np, L, f0, f1, s8, s16, s17, s18, s19, s20, hX, m0, m1, hM, h3, h4, hc8, hLb, her, hfl⟩ := hLI
  have hI : IG B g := hX.2.2.1
  obtain ⟨⟨st, hst, hx, htr⟩, hXr⟩ := id hX
  refine zs_aload_n (pc := 344) dW_law_344 rfl ?_
  refine zs_aload_n (pc := 345) dW_law_345 rfl ?_
  refine zs_iload (pc := 346) dW_law_346 rfl ?_
  refine zs_iconst (pc := 348) dW_law_348 zi_1 ?_
  refine zn_iadd (pc := 349) dW_law_349 ?_
  refine zs_sld (pc := 350) dW_law_350 (vp_in_nI (by omega) (by omega)) ?_
  refine zs_aload_n (pc := 351) dW_law_351 rfl ?_
  refine zs_iload (pc := 352) dW_law_352 rfl ?_
  refine zs_iconst (pc := 354) dW_law_354 zi_2 ?_
  refine zn_iadd (pc := 355) dW_law_355 ?_
  refine zs_sld (pc := 356) dW_law_356 (vp_in_nI (by omega) (by omega)) ?_
  refine zs_aload_n (pc := 357) dW_law_357 rfl ?_
  refine zcX_4 (pc := 358) (d2 := d - 1) (s_W_addCode hl (by omega) hX (by omega) _ _ (by omega) h3) dW_law_358 kW_186 mdW_addCode msW_addCode (by decide) (Nat.le_of_ble_eq_true rfl) (by omega) (by omega) (by omega) (fun v h1 n1 hq => ?_) (fun E h1 n1 hq => absurd hq.1 (by intro q; cases q))
  obtain ⟨hv9, hn9, hf9, hX1, f2, h31, hv0⟩ := hq
  obtain rfl := Sum.inl.inj hv9
  have hM1 := MS.sm hM (h1 := h1) (fun q q1 q2 => hf9 q (by omega) (by omega))
  have m01 := (hf9 a (by omega) (by omega)).trans m0
  have m11 := (hf9 (a + 1) (by omega) (by omega)).trans m1
  have h41 := (hf9 t (by omega) (by omega)).trans h4
  rw [← z2_id m01 m11]
  obtain ⟨⟨A2, m2⟩, ⟨S, mS, mS2⟩, ⟨U, m4, mP⟩, m5, m6, m7, m8, ⟨C9, m9⟩⟩ := id hM1
  have hlt : (zdo g 1 (zgX Γ (nI (i + 1)).toNatClampNeg) (zgX Γ (nI (i + 2)).toNatClampNeg)).1 < 4 := (zdo_lim (g := g) (k := 1) (by decide) _ _).1
  refine zs_istore (pc := 361) (ls2 := [_, _, _, _, _, _, _, _, _]) dW_law_361 (Nat.le_of_ble_eq_true rfl) rfl ?_
  refine zs_aload_n (pc := 363) dW_law_363 rfl ?_
  refine zs_aload_n (pc := 364) dW_law_364 rfl ?_
  refine zs_iload (pc := 365) dW_law_365 rfl ?_
  refine zs_iconst (pc := 367) dW_law_367 zi_1 ?_
  refine zn_iadd (pc := 368) dW_law_368 ?_
  refine zs_sld (pc := 369) dW_law_369 (vp_in_nI (by omega) (by omega)) ?_
  refine zs_aload_n (pc := 370) dW_law_370 rfl ?_
  refine zs_iload (pc := 371) dW_law_371 rfl ?_
  refine zs_iconst (pc := 373) dW_law_373 zi_2 ?_
  refine zn_iadd (pc := 374) dW_law_374 ?_
  refine zs_sld (pc := 375) dW_law_375 (vp_in_nI (by omega) (by omega)) ?_
  refine zcVQ_2 (pc := 376) (d2 := d - 1) (s_M_addCode hl (by omega) m2 m4 mP hc8 hI (by omega) _ _) dW_law_376 kW_189 mdM_addCode miM_addCode mvM_addCode rfl (by first | exact z2_a | exact hx) rfl (Nat.le_of_ble_eq_true rfl) (by omega) (by omega) (by omega) (fun v h1 n1 hq => ?_) (fun E h1 n1 hq => absurd hq.1 (by intro q; cases q))
  obtain ⟨hv8, rfl, U2, rfl, hP2⟩ := hq
  obtain rfl := Sum.inl.inj hv8
  refine zs_istore (pc := 379) (ls2 := [_, _, _, _, _, _, _, _, _]) dW_law_379 (Nat.le_of_ble_eq_true rfl) rfl ?_
  refine zs_aload_n (pc := 381) dW_law_381 rfl ?_
  refine zcV1_0 (pc := 382) (d2 := d - 1) (s_M_thrown hl) dW_law_382 kW_183 mdM_thrown miM_thrown mvM_thrown rfl (by first | exact z2_a | exact hx) rfl (Nat.le_of_ble_eq_true rfl) (by omega) (by omega) (by omega) ?_
  refine zs_iload (pc := 385) dW_law_385 rfl ?_
  refine zs_icmp_eq (pc := 387) 392 dW_law_387 rfl (fun _ => ?_) (fun h9 => absurd h9 (fun q => q rfl))
  refine zs_iload (pc := 392) dW_law_392 rfl ?_
  refine zs_if_ne (pc := 394) 409 dW_law_394 rfl (fun hb9 => ?_) (fun hb9 => ?_)
  · refine zs_goto (pc := 409) 3260 dW_law_409 rfl ?_
    exact K _ _ _ _ _ _ _ _ (by omega) (by omega) (by omega) (zLI_mk ha hr ht hX1 (fun q hq => (zu_n (by omega)).trans (zu_n (by omega))) ⟨⟨g, by rw [zu_n (by omega)]; exact zu_s⟩, ⟨S, by rw [zu_n (by omega), zu_n (by omega)]; exact mS, mS2⟩, ⟨U2, zu_s, hP2⟩, by rw [zu_n (by omega), zu_n (by omega)]; exact m5, ⟨m6.choose, by rw [zu_n (by omega), zu_n (by omega)]; exact m6.choose_spec.1, m6.choose_spec.2⟩, by rw [zu_n (by omega), zu_n (by omega)]; exact m7, by rw [zu_n (by omega), zu_n (by omega)]; exact m8, ⟨C9, by rw [zu_n (by omega), zu_n (by omega)]; exact m9⟩⟩ h31 h41 (zkc_b hc8) hLb her hfl)
  · have e0 : (zdo g 1 (zgX Γ (nI (i + 1)).toNatClampNeg) (zgX Γ (nI (i + 2)).toNatClampNeg)).1 = 0 := Decidable.byContradiction fun q => nI_ne (by omega) (by decide) q hb9
    have z0 : (nI 0).toNatClampNeg = 0 := by decide
    have em : (zma (zdo g 1 (zgX Γ (nI (i + 1)).toNatClampNeg) (zgX Γ (nI (i + 2)).toNatClampNeg))) = (zans 1 (zdo g 1 (zgX Γ (nI (i + 1)).toNatClampNeg) (zgX Γ (nI (i + 2)).toNatClampNeg))) := by unfold zma zans; rw [if_pos e0, if_pos e0]
    have ec : lg_cmp (f2 (nI 0).toNatClampNeg) (zma (zdo g 1 (zgX Γ (nI (i + 1)).toNatClampNeg) (zgX Γ (nI (i + 2)).toNatClampNeg))).toInt64 = 0 := by rw [z0, hv0 e0, em]; exact lg_same
    refine zs_aload_n (pc := 397) dW_law_397 rfl ?_
    refine zs_iconst (pc := 398) dW_law_398 zi_0 ?_
    refine zs_lald (pc := 399) dW_law_399 (by (rw [z2_n (by omega) (by omega), zu_n (by omega), zu_n (by omega)]; exact h31)) (vp_in_nI (by decide) (by decide)) ?_
    refine zs_iload (pc := 400) dW_law_400 rfl ?_
    refine zs_i2l (pc := 402) dW_law_402 ?_
    refine zs_lcmp (pc := 403) dW_law_403 ?_
    refine zs_if_eq (pc := 404) 409 dW_law_404 rfl (fun _ => ?_) (fun h9 => absurd h9 (fun q => q ec))
    refine zs_goto (pc := 409) 3260 dW_law_409 rfl ?_
    exact K _ _ _ _ _ _ _ _ (by omega) (by omega) (by omega) (zLI_mk ha hr ht hX1 (fun q hq => (zu_n (by omega)).trans (zu_n (by omega))) ⟨⟨g, by rw [zu_n (by omega)]; exact zu_s⟩, ⟨S, by rw [zu_n (by omega), zu_n (by omega)]; exact mS, mS2⟩, ⟨U2, zu_s, hP2⟩, by rw [zu_n (by omega), zu_n (by omega)]; exact m5, ⟨m6.choose, by rw [zu_n (by omega), zu_n (by omega)]; exact m6.choose_spec.1, m6.choose_spec.2⟩, by rw [zu_n (by omega), zu_n (by omega)]; exact m7, by rw [zu_n (by omega), zu_n (by omega)]; exact m8, ⟨C9, by rw [zu_n (by omega), zu_n (by omega)]; exact m9⟩⟩ h31 h41 (zkc_b hc8) hLb her hfl)
theorem sL_removeCode {Γ : zG} {l : Launch} (hl : l.stackTraces = false) {d mc ms : Nat} (hd : 12 ≤ d) {FN : List Frame → Array Value → State → State → Prop} {x a r t n k ks i B : Nat} {h : zH} {v6 v7 v8 : Option Value} (ha : a = x + 481) (hr : r = a + 10) (ht : t = a + 11) (hB : B + 640 < 2 ^ 20) (hi : i + 4 ≤ zgL Γ) (hZ : zgL Γ < 2 ^ 31) (hk : k + 1 ≤ mc) (hks : ks + 6 ≤ ms) (hLI : zLI x a r t B h) (K : ∀ (h9 : zH) (n9 k9 ks9 B9 : Nat) (w6 w7 w8 : Option Value), k9 ≤ k + 1 → ks9 ≤ ks + 6 → B9 ≤ B + 300 → zLI x a r t B9 h9 → Z Γ l mW_law d mc ms FN 3260 [some (.ref (zgS Γ)), some (.ref x), some (.ref a), some (.ref r), some (.ref t), some (.int (nI i)), w6, w7, w8] [] h9 n9 k9 ks9) : Z Γ l mW_law d mc ms FN 412 [some (.ref (zgS Γ)), some (.ref x), some (.ref a), some (.ref r), some (.ref t), some (.int (nI i)), v6, v7, v8] [] h n k ks := by
  obtain ⟨g, P, c, sv, er, fl, T, np, L, f0, f1, s8, s16, s17, s18, s19, s20, hX, m0, m1, hM, h3, h4, hc8, hLb, her, hfl⟩ := hLI
  have hI : IG B g := hX.2.2.1
  obtain ⟨⟨st, hst, hx, htr⟩, hXr⟩ := id hX
  refine zs_aload_n (pc := 412) dW_law_412 rfl ?_
  refine zs_aload_n (pc := 413) dW_law_413 rfl ?_
  refine zs_iload (pc := 414) dW_law_414 rfl ?_
  refine zs_iconst (pc := 416) dW_law_416 zi_1 ?_
  refine zn_iadd (pc := 417) dW_law_417 ?_
  refine zs_sld (pc := 418) dW_law_418 (vp_in_nI (by omega) (by omega)) ?_
  refine zs_aload_n (pc := 419) dW_law_419 rfl ?_
  refine zs_iload (pc := 420) dW_law_420 rfl ?_
  refine zs_iconst (pc := 422) dW_law_422 zi_2 ?_
  refine zn_iadd (pc := 423) dW_law_423 ?_
  refine zs_sld (pc := 424) dW_law_424 (vp_in_nI (by omega) (by omega)) ?_
  refine zs_aload_n (pc := 425) dW_law_425 rfl ?_
  refine zcX_4 (pc := 426) (d2 := d - 1) (s_W_removeCode hl (by omega) hX (by omega) _ _ (by omega) h3) dW_law_426 kW_190 mdW_removeCode msW_removeCode (by decide) (Nat.le_of_ble_eq_true rfl) (by omega) (by omega) (by omega) (fun v h1 n1 hq => ?_) (fun E h1 n1 hq => absurd hq.1 (by intro q; cases q))
  obtain ⟨hv9, hn9, hf9, hX1, f2, h31, hv0⟩ := hq
  obtain rfl := Sum.inl.inj hv9
  have hM1 := MS.sm hM (h1 := h1) (fun q q1 q2 => hf9 q (by omega) (by omega))
  have m01 := (hf9 a (by omega) (by omega)).trans m0
  have m11 := (hf9 (a + 1) (by omega) (by omega)).trans m1
  have h41 := (hf9 t (by omega) (by omega)).trans h4
  rw [← z2_id m01 m11]
  obtain ⟨⟨A2, m2⟩, ⟨S, mS, mS2⟩, ⟨U, m4, mP⟩, m5, m6, m7, m8, ⟨C9, m9⟩⟩ := id hM1
  have hlt : (zdo g 2 (zgX Γ (nI (i + 1)).toNatClampNeg) (zgX Γ (nI (i + 2)).toNatClampNeg)).1 < 4 := (zdo_lim (g := g) (k := 2) (by decide) _ _).1
  refine zs_istore (pc := 429) (ls2 := [_, _, _, _, _, _, _, _, _]) dW_law_429 (Nat.le_of_ble_eq_true rfl) rfl ?_
  refine zs_aload_n (pc := 431) dW_law_431 rfl ?_
  refine zs_aload_n (pc := 432) dW_law_432 rfl ?_
  refine zs_iload (pc := 433) dW_law_433 rfl ?_
  refine zs_iconst (pc := 435) dW_law_435 zi_1 ?_
  refine zn_iadd (pc := 436) dW_law_436 ?_
  refine zs_sld (pc := 437) dW_law_437 (vp_in_nI (by omega) (by omega)) ?_
  refine zs_aload_n (pc := 438) dW_law_438 rfl ?_
  refine zs_iload (pc := 439) dW_law_439 rfl ?_
  refine zs_iconst (pc := 441) dW_law_441 zi_2 ?_
  refine zn_iadd (pc := 442) dW_law_442 ?_
  refine zs_sld (pc := 443) dW_law_443 (vp_in_nI (by omega) (by omega)) ?_
  refine zcVQ_2 (pc := 444) (d2 := d - 1) (s_M_removeCode hl (by omega) m2 m4 mP hc8 hI (by omega) _ _) dW_law_444 kW_192 mdM_removeCode miM_removeCode mvM_removeCode rfl (by first | exact z2_a | exact hx) rfl (Nat.le_of_ble_eq_true rfl) (by omega) (by omega) (by omega) (fun v h1 n1 hq => ?_) (fun E h1 n1 hq => absurd hq.1 (by intro q; cases q))
  obtain ⟨hv8, rfl, U2, rfl, hP2⟩ := hq
  obtain rfl := Sum.inl.inj hv8
  refine zs_istore (pc := 447) (ls2 := [_, _, _, _, _, _, _, _, _]) dW_law_447 (Nat.le_of_ble_eq_true rfl) rfl ?_
  refine zs_aload_n (pc := 449) dW_law_449 rfl ?_
  refine zcV1_0 (pc := 450) (d2 := d - 1) (s_M_thrown hl) dW_law_450 kW_183 mdM_thrown miM_thrown mvM_thrown rfl (by first | exact z2_a | exact hx) rfl (Nat.le_of_ble_eq_true rfl) (by omega) (by omega) (by omega) ?_
  refine zs_iload (pc := 453) dW_law_453 rfl ?_
  refine zs_icmp_eq (pc := 455) 460 dW_law_455 rfl (fun _ => ?_) (fun h9 => absurd h9 (fun q => q rfl))
  refine zs_iload (pc := 460) dW_law_460 rfl ?_
  refine zs_if_ne (pc := 462) 477 dW_law_462 rfl (fun hb9 => ?_) (fun hb9 => ?_)
  · refine zs_goto (pc := 477) 3260 dW_law_477 rfl ?_
    exact K _ _ _ _ _ _ _ _ (by omega) (by omega) (by omega) (zLI_mk ha hr ht hX1 (fun q hq => (zu_n (by omega)).trans (zu_n (by omega))) ⟨⟨g, by rw [zu_n (by omega)]; exact zu_s⟩, ⟨S, by rw [zu_n (by omega), zu_n (by omega)]; exact mS, mS2⟩, ⟨U2, zu_s, hP2⟩, by rw [zu_n (by omega), zu_n (by omega)]; exact m5, ⟨m6.choose, by rw [zu_n (by omega), zu_n (by omega)]; exact m6.choose_spec.1, m6.choose_spec.2⟩, by rw [zu_n (by omega), zu_n (by omega)]; exact m7, by rw [zu_n (by omega), zu_n (by omega)]; exact m8, ⟨C9, by rw [zu_n (by omega), zu_n (by omega)]; exact m9⟩⟩ h31 h41 (zkc_b hc8) hLb her hfl)
  · have e0 : (zdo g 2 (zgX Γ (nI (i + 1)).toNatClampNeg) (zgX Γ (nI (i + 2)).toNatClampNeg)).1 = 0 := Decidable.byContradiction fun q => nI_ne (by omega) (by decide) q hb9
    have z0 : (nI 0).toNatClampNeg = 0 := by decide
    have em : (zma (zdo g 2 (zgX Γ (nI (i + 1)).toNatClampNeg) (zgX Γ (nI (i + 2)).toNatClampNeg))) = (zans 2 (zdo g 2 (zgX Γ (nI (i + 1)).toNatClampNeg) (zgX Γ (nI (i + 2)).toNatClampNeg))) := by unfold zma zans; rw [if_pos e0, if_pos e0]
    have ec : lg_cmp (f2 (nI 0).toNatClampNeg) (zma (zdo g 2 (zgX Γ (nI (i + 1)).toNatClampNeg) (zgX Γ (nI (i + 2)).toNatClampNeg))).toInt64 = 0 := by rw [z0, hv0 e0, em]; exact lg_same
    refine zs_aload_n (pc := 465) dW_law_465 rfl ?_
    refine zs_iconst (pc := 466) dW_law_466 zi_0 ?_
    refine zs_lald (pc := 467) dW_law_467 (by (rw [z2_n (by omega) (by omega), zu_n (by omega), zu_n (by omega)]; exact h31)) (vp_in_nI (by decide) (by decide)) ?_
    refine zs_iload (pc := 468) dW_law_468 rfl ?_
    refine zs_i2l (pc := 470) dW_law_470 ?_
    refine zs_lcmp (pc := 471) dW_law_471 ?_
    refine zs_if_eq (pc := 472) 477 dW_law_472 rfl (fun _ => ?_) (fun h9 => absurd h9 (fun q => q ec))
    refine zs_goto (pc := 477) 3260 dW_law_477 rfl ?_
    exact K _ _ _ _ _ _ _ _ (by omega) (by omega) (by omega) (zLI_mk ha hr ht hX1 (fun q hq => (zu_n (by omega)).trans (zu_n (by omega))) ⟨⟨g, by rw [zu_n (by omega)]; exact zu_s⟩, ⟨S, by rw [zu_n (by omega), zu_n (by omega)]; exact mS, mS2⟩, ⟨U2, zu_s, hP2⟩, by rw [zu_n (by omega), zu_n (by omega)]; exact m5, ⟨m6.choose, by rw [zu_n (by omega), zu_n (by omega)]; exact m6.choose_spec.1, m6.choose_spec.2⟩, by rw [zu_n (by omega), zu_n (by omega)]; exact m7, by rw [zu_n (by omega), zu_n (by omega)]; exact m8, ⟨C9, by rw [zu_n (by omega), zu_n (by omega)]; exact m9⟩⟩ h31 h41 (zkc_b hc8) hLb her hfl)
theorem sL_removeEntry {Γ : zG} {l : Launch} (hl : l.stackTraces = false) {d mc ms : Nat} (hd : 12 ≤ d) {FN : List Frame → Array Value → State → State → Prop} {x a r t n k ks i B : Nat} {h : zH} {v6 v7 v8 : Option Value} (ha : a = x + 481) (hr : r = a + 10) (ht : t = a + 11) (hB : B + 640 < 2 ^ 20) (hi : i + 4 ≤ zgL Γ) (hZ : zgL Γ < 2 ^ 31) (hk : k + 1 ≤ mc) (hks : ks + 6 ≤ ms) (hLI : zLI x a r t B h) (K : ∀ (h9 : zH) (n9 k9 ks9 B9 : Nat) (w6 w7 w8 : Option Value), k9 ≤ k + 1 → ks9 ≤ ks + 6 → B9 ≤ B + 300 → zLI x a r t B9 h9 → Z Γ l mW_law d mc ms FN 3260 [some (.ref (zgS Γ)), some (.ref x), some (.ref a), some (.ref r), some (.ref t), some (.int (nI i)), w6, w7, w8] [] h9 n9 k9 ks9) : Z Γ l mW_law d mc ms FN 480 [some (.ref (zgS Γ)), some (.ref x), some (.ref a), some (.ref r), some (.ref t), some (.int (nI i)), v6, v7, v8] [] h n k ks := by
  obtain ⟨g, P, c, sv, er, fl, T, np, L, f0, f1, s8, s16, s17, s18, s19, s20, hX, m0, m1, hM, h3, h4, hc8, hLb, her, hfl⟩ := hLI
  have hI : IG B g := hX.2.2.1
  obtain ⟨⟨st, hst, hx, htr⟩, hXr⟩ := id hX
  refine zs_aload_n (pc := 480) dW_law_480 rfl ?_
  refine zs_aload_n (pc := 481) dW_law_481 rfl ?_
  refine zs_iload (pc := 482) dW_law_482 rfl ?_
  refine zs_iconst (pc := 484) dW_law_484 zi_1 ?_
  refine zn_iadd (pc := 485) dW_law_485 ?_
  refine zs_sld (pc := 486) dW_law_486 (vp_in_nI (by omega) (by omega)) ?_
  refine zs_aload_n (pc := 487) dW_law_487 rfl ?_
  refine zcX_3 (pc := 488) (d2 := d - 1) (s_W_removeEntry hl (by omega) hX (by omega) _ (by omega) h3) dW_law_488 kW_193 mdW_removeEntry msW_removeEntry (by decide) (Nat.le_of_ble_eq_true rfl) (by omega) (by omega) (by omega) (fun v h1 n1 hq => ?_) (fun E h1 n1 hq => absurd hq.1 (by intro q; cases q))
  obtain ⟨hv9, hn9, hf9, hX1, f2, h31, hv0⟩ := hq
  obtain rfl := Sum.inl.inj hv9
  have hM1 := MS.sm hM (h1 := h1) (fun q q1 q2 => hf9 q (by omega) (by omega))
  have m01 := (hf9 a (by omega) (by omega)).trans m0
  have m11 := (hf9 (a + 1) (by omega) (by omega)).trans m1
  have h41 := (hf9 t (by omega) (by omega)).trans h4
  rw [← z2_id m01 m11]
  obtain ⟨⟨A2, m2⟩, ⟨S, mS, mS2⟩, ⟨U, m4, mP⟩, m5, m6, m7, m8, ⟨C9, m9⟩⟩ := id hM1
  have hlt : (zdo g 3 (zgX Γ (nI (i + 1)).toNatClampNeg) (nI 0)).1 < 2 := (zdo_lim (g := g) (k := 3) (by decide) _ _).1
  refine zs_istore (pc := 491) (ls2 := [_, _, _, _, _, _, _, _, _]) dW_law_491 (Nat.le_of_ble_eq_true rfl) rfl ?_
  refine zs_aload_n (pc := 493) dW_law_493 rfl ?_
  refine zs_aload_n (pc := 494) dW_law_494 rfl ?_
  refine zs_iload (pc := 495) dW_law_495 rfl ?_
  refine zs_iconst (pc := 497) dW_law_497 zi_1 ?_
  refine zn_iadd (pc := 498) dW_law_498 ?_
  refine zs_sld (pc := 499) dW_law_499 (vp_in_nI (by omega) (by omega)) ?_
  refine zcVQ_1 (pc := 500) (d2 := d - 1) (s_M_removeEntry hl (by omega) m2 m4 mP hc8 hI (by omega) _) dW_law_500 kW_195 mdM_removeEntry miM_removeEntry mvM_removeEntry rfl (by first | exact z2_a | exact hx) rfl (Nat.le_of_ble_eq_true rfl) (by omega) (by omega) (by omega) (fun v h1 n1 hq => ?_) (fun E h1 n1 hq => absurd hq.1 (by intro q; cases q))
  obtain ⟨hv8, rfl, U2, rfl, hP2⟩ := hq
  obtain rfl := Sum.inl.inj hv8
  refine zs_istore (pc := 503) (ls2 := [_, _, _, _, _, _, _, _, _]) dW_law_503 (Nat.le_of_ble_eq_true rfl) rfl ?_
  refine zs_aload_n (pc := 505) dW_law_505 rfl ?_
  refine zcV1_0 (pc := 506) (d2 := d - 1) (s_M_thrown hl) dW_law_506 kW_183 mdM_thrown miM_thrown mvM_thrown rfl (by first | exact z2_a | exact hx) rfl (Nat.le_of_ble_eq_true rfl) (by omega) (by omega) (by omega) ?_
  refine zs_iload (pc := 509) dW_law_509 rfl ?_
  refine zs_icmp_eq (pc := 511) 516 dW_law_511 rfl (fun _ => ?_) (fun h9 => absurd h9 (fun q => q rfl))
  refine zs_iload (pc := 516) dW_law_516 rfl ?_
  refine zs_if_ne (pc := 518) 533 dW_law_518 rfl (fun hb9 => ?_) (fun hb9 => ?_)
  · refine zs_goto (pc := 533) 3260 dW_law_533 rfl ?_
    exact K _ _ _ _ _ _ _ _ (by omega) (by omega) (by omega) (zLI_mk ha hr ht hX1 (fun q hq => (zu_n (by omega)).trans (zu_n (by omega))) ⟨⟨g, by rw [zu_n (by omega)]; exact zu_s⟩, ⟨S, by rw [zu_n (by omega), zu_n (by omega)]; exact mS, mS2⟩, ⟨U2, zu_s, hP2⟩, by rw [zu_n (by omega), zu_n (by omega)]; exact m5, ⟨m6.choose, by rw [zu_n (by omega), zu_n (by omega)]; exact m6.choose_spec.1, m6.choose_spec.2⟩, by rw [zu_n (by omega), zu_n (by omega)]; exact m7, by rw [zu_n (by omega), zu_n (by omega)]; exact m8, ⟨C9, by rw [zu_n (by omega), zu_n (by omega)]; exact m9⟩⟩ h31 h41 (zkc_b hc8) hLb her hfl)
  · have e0 : (zdo g 3 (zgX Γ (nI (i + 1)).toNatClampNeg) (nI 0)).1 = 0 := Decidable.byContradiction fun q => nI_ne (by omega) (by decide) q hb9
    have z0 : (nI 0).toNatClampNeg = 0 := by decide
    have em : (zma (zdo g 3 (zgX Γ (nI (i + 1)).toNatClampNeg) (nI 0))) = (zans 3 (zdo g 3 (zgX Γ (nI (i + 1)).toNatClampNeg) (nI 0))) := by unfold zma zans; rw [if_pos e0, if_pos e0]
    have ec : lg_cmp (f2 (nI 0).toNatClampNeg) (zma (zdo g 3 (zgX Γ (nI (i + 1)).toNatClampNeg) (nI 0))).toInt64 = 0 := by rw [z0, hv0 e0, em]; exact lg_same
    refine zs_aload_n (pc := 521) dW_law_521 rfl ?_
    refine zs_iconst (pc := 522) dW_law_522 zi_0 ?_
    refine zs_lald (pc := 523) dW_law_523 (by (rw [z2_n (by omega) (by omega), zu_n (by omega), zu_n (by omega)]; exact h31)) (vp_in_nI (by decide) (by decide)) ?_
    refine zs_iload (pc := 524) dW_law_524 rfl ?_
    refine zs_i2l (pc := 526) dW_law_526 ?_
    refine zs_lcmp (pc := 527) dW_law_527 ?_
    refine zs_if_eq (pc := 528) 533 dW_law_528 rfl (fun _ => ?_) (fun h9 => absurd h9 (fun q => q ec))
    refine zs_goto (pc := 533) 3260 dW_law_533 rfl ?_
    exact K _ _ _ _ _ _ _ _ (by omega) (by omega) (by omega) (zLI_mk ha hr ht hX1 (fun q hq => (zu_n (by omega)).trans (zu_n (by omega))) ⟨⟨g, by rw [zu_n (by omega)]; exact zu_s⟩, ⟨S, by rw [zu_n (by omega), zu_n (by omega)]; exact mS, mS2⟩, ⟨U2, zu_s, hP2⟩, by rw [zu_n (by omega), zu_n (by omega)]; exact m5, ⟨m6.choose, by rw [zu_n (by omega), zu_n (by omega)]; exact m6.choose_spec.1, m6.choose_spec.2⟩, by rw [zu_n (by omega), zu_n (by omega)]; exact m7, by rw [zu_n (by omega), zu_n (by omega)]; exact m8, ⟨C9, by rw [zu_n (by omega), zu_n (by omega)]; exact m9⟩⟩ h31 h41 (zkc_b hc8) hLb her hfl)
theorem sL_touch {Γ : zG} {l : Launch} (hl : l.stackTraces = false) {d mc ms : Nat} (hd : 12 ≤ d) {FN : List Frame → Array Value → State → State → Prop} {x a r t n k ks i B : Nat} {h : zH} {v6 v7 v8 : Option Value} (ha : a = x + 481) (hr : r = a + 10) (ht : t = a + 11) (hB : B + 640 < 2 ^ 20) (hi : i + 4 ≤ zgL Γ) (hZ : zgL Γ < 2 ^ 31) (hk : k + 1 ≤ mc) (hks : ks + 6 ≤ ms) (hLI : zLI x a r t B h) (K : ∀ (h9 : zH) (n9 k9 ks9 B9 : Nat) (w6 w7 w8 : Option Value), k9 ≤ k + 1 → ks9 ≤ ks + 6 → B9 ≤ B + 300 → zLI x a r t B9 h9 → Z Γ l mW_law d mc ms FN 3260 [some (.ref (zgS Γ)), some (.ref x), some (.ref a), some (.ref r), some (.ref t), some (.int (nI i)), w6, w7, w8] [] h9 n9 k9 ks9) : Z Γ l mW_law d mc ms FN 536 [some (.ref (zgS Γ)), some (.ref x), some (.ref a), some (.ref r), some (.ref t), some (.int (nI i)), v6, v7, v8] [] h n k ks := by
  obtain ⟨g, P, c, sv, er, fl, T, np, L, f0, f1, s8, s16, s17, s18, s19, s20, hX, m0, m1, hM, h3, h4, hc8, hLb, her, hfl⟩ := hLI
  have hI : IG B g := hX.2.2.1
  obtain ⟨⟨st, hst, hx, htr⟩, hXr⟩ := id hX
  refine zs_aload_n (pc := 536) dW_law_536 rfl ?_
  refine zs_aload_n (pc := 537) dW_law_537 rfl ?_
  refine zs_iload (pc := 538) dW_law_538 rfl ?_
  refine zs_iconst (pc := 540) dW_law_540 zi_1 ?_
  refine zn_iadd (pc := 541) dW_law_541 ?_
  refine zs_sld (pc := 542) dW_law_542 (vp_in_nI (by omega) (by omega)) ?_
  refine zs_aload_n (pc := 543) dW_law_543 rfl ?_
  refine zcX_3 (pc := 544) (d2 := d - 1) (s_W_touch hl (by omega) hX (by omega) _ (by omega) h3) dW_law_544 kW_196 mdW_touch msW_touch (by decide) (Nat.le_of_ble_eq_true rfl) (by omega) (by omega) (by omega) (fun v h1 n1 hq => ?_) (fun E h1 n1 hq => absurd hq.1 (by intro q; cases q))
  obtain ⟨hv9, hn9, hf9, hX1, f2, h31, hv0⟩ := hq
  obtain rfl := Sum.inl.inj hv9
  have hM1 := MS.sm hM (h1 := h1) (fun q q1 q2 => hf9 q (by omega) (by omega))
  have m01 := (hf9 a (by omega) (by omega)).trans m0
  have m11 := (hf9 (a + 1) (by omega) (by omega)).trans m1
  have h41 := (hf9 t (by omega) (by omega)).trans h4
  rw [← z2_id m01 m11]
  obtain ⟨⟨A2, m2⟩, ⟨S, mS, mS2⟩, ⟨U, m4, mP⟩, m5, m6, m7, m8, ⟨C9, m9⟩⟩ := id hM1
  have hlt : (zdo g 4 (zgX Γ (nI (i + 1)).toNatClampNeg) (nI 0)).1 < 2 := (zdo_lim (g := g) (k := 4) (by decide) _ _).1
  refine zs_istore (pc := 547) (ls2 := [_, _, _, _, _, _, _, _, _]) dW_law_547 (Nat.le_of_ble_eq_true rfl) rfl ?_
  refine zs_aload_n (pc := 549) dW_law_549 rfl ?_
  refine zs_aload_n (pc := 550) dW_law_550 rfl ?_
  refine zs_iload (pc := 551) dW_law_551 rfl ?_
  refine zs_iconst (pc := 553) dW_law_553 zi_1 ?_
  refine zn_iadd (pc := 554) dW_law_554 ?_
  refine zs_sld (pc := 555) dW_law_555 (vp_in_nI (by omega) (by omega)) ?_
  refine zcVQ_1 (pc := 556) (d2 := d - 1) (s_M_touch hl (by omega) m2 m4 mP hc8 hI (by omega) _) dW_law_556 kW_198 mdM_touch miM_touch mvM_touch rfl (by first | exact z2_a | exact hx) rfl (Nat.le_of_ble_eq_true rfl) (by omega) (by omega) (by omega) (fun v h1 n1 hq => ?_) (fun E h1 n1 hq => absurd hq.1 (by intro q; cases q))
  obtain ⟨hv8, rfl, U2, rfl, hP2⟩ := hq
  obtain rfl := Sum.inl.inj hv8
  refine zs_istore (pc := 559) (ls2 := [_, _, _, _, _, _, _, _, _]) dW_law_559 (Nat.le_of_ble_eq_true rfl) rfl ?_
  refine zs_aload_n (pc := 561) dW_law_561 rfl ?_
  refine zcV1_0 (pc := 562) (d2 := d - 1) (s_M_thrown hl) dW_law_562 kW_183 mdM_thrown miM_thrown mvM_thrown rfl (by first | exact z2_a | exact hx) rfl (Nat.le_of_ble_eq_true rfl) (by omega) (by omega) (by omega) ?_
  refine zs_iload (pc := 565) dW_law_565 rfl ?_
  refine zs_icmp_eq (pc := 567) 572 dW_law_567 rfl (fun _ => ?_) (fun h9 => absurd h9 (fun q => q rfl))
  refine zs_iload (pc := 572) dW_law_572 rfl ?_
  refine zs_if_ne (pc := 574) 589 dW_law_574 rfl (fun hb9 => ?_) (fun hb9 => ?_)
  · refine zs_goto (pc := 589) 3260 dW_law_589 rfl ?_
    exact K _ _ _ _ _ _ _ _ (by omega) (by omega) (by omega) (zLI_mk ha hr ht hX1 (fun q hq => (zu_n (by omega)).trans (zu_n (by omega))) ⟨⟨g, by rw [zu_n (by omega)]; exact zu_s⟩, ⟨S, by rw [zu_n (by omega), zu_n (by omega)]; exact mS, mS2⟩, ⟨U2, zu_s, hP2⟩, by rw [zu_n (by omega), zu_n (by omega)]; exact m5, ⟨m6.choose, by rw [zu_n (by omega), zu_n (by omega)]; exact m6.choose_spec.1, m6.choose_spec.2⟩, by rw [zu_n (by omega), zu_n (by omega)]; exact m7, by rw [zu_n (by omega), zu_n (by omega)]; exact m8, ⟨C9, by rw [zu_n (by omega), zu_n (by omega)]; exact m9⟩⟩ h31 h41 (zkc_b hc8) hLb her hfl)
  · have e0 : (zdo g 4 (zgX Γ (nI (i + 1)).toNatClampNeg) (nI 0)).1 = 0 := Decidable.byContradiction fun q => nI_ne (by omega) (by decide) q hb9
    have z0 : (nI 0).toNatClampNeg = 0 := by decide
    have em : (zma (zdo g 4 (zgX Γ (nI (i + 1)).toNatClampNeg) (nI 0))) = (zans 4 (zdo g 4 (zgX Γ (nI (i + 1)).toNatClampNeg) (nI 0))) := by unfold zma zans; rw [if_pos e0, if_pos e0]
    have ec : lg_cmp (f2 (nI 0).toNatClampNeg) (zma (zdo g 4 (zgX Γ (nI (i + 1)).toNatClampNeg) (nI 0))).toInt64 = 0 := by rw [z0, hv0 e0, em]; exact lg_same
    refine zs_aload_n (pc := 577) dW_law_577 rfl ?_
    refine zs_iconst (pc := 578) dW_law_578 zi_0 ?_
    refine zs_lald (pc := 579) dW_law_579 (by (rw [z2_n (by omega) (by omega), zu_n (by omega), zu_n (by omega)]; exact h31)) (vp_in_nI (by decide) (by decide)) ?_
    refine zs_iload (pc := 580) dW_law_580 rfl ?_
    refine zs_i2l (pc := 582) dW_law_582 ?_
    refine zs_lcmp (pc := 583) dW_law_583 ?_
    refine zs_if_eq (pc := 584) 589 dW_law_584 rfl (fun _ => ?_) (fun h9 => absurd h9 (fun q => q ec))
    refine zs_goto (pc := 589) 3260 dW_law_589 rfl ?_
    exact K _ _ _ _ _ _ _ _ (by omega) (by omega) (by omega) (zLI_mk ha hr ht hX1 (fun q hq => (zu_n (by omega)).trans (zu_n (by omega))) ⟨⟨g, by rw [zu_n (by omega)]; exact zu_s⟩, ⟨S, by rw [zu_n (by omega), zu_n (by omega)]; exact mS, mS2⟩, ⟨U2, zu_s, hP2⟩, by rw [zu_n (by omega), zu_n (by omega)]; exact m5, ⟨m6.choose, by rw [zu_n (by omega), zu_n (by omega)]; exact m6.choose_spec.1, m6.choose_spec.2⟩, by rw [zu_n (by omega), zu_n (by omega)]; exact m7, by rw [zu_n (by omega), zu_n (by omega)]; exact m8, ⟨C9, by rw [zu_n (by omega), zu_n (by omega)]; exact m9⟩⟩ h31 h41 (zkc_b hc8) hLb her hfl)
theorem sL_merge {Γ : zG} {l : Launch} (hl : l.stackTraces = false) {d mc ms : Nat} (hd : 12 ≤ d) {FN : List Frame → Array Value → State → State → Prop} {x a r t n k ks i B : Nat} {h : zH} {v6 v7 v8 : Option Value} (ha : a = x + 481) (hr : r = a + 10) (ht : t = a + 11) (hB : B + 640 < 2 ^ 20) (hi : i + 4 ≤ zgL Γ) (hZ : zgL Γ < 2 ^ 31) (hk : k + 1 ≤ mc) (hks : ks + 6 ≤ ms) (hLI : zLI x a r t B h) (K : ∀ (h9 : zH) (n9 k9 ks9 B9 : Nat) (w6 w7 w8 : Option Value), k9 ≤ k + 1 → ks9 ≤ ks + 6 → B9 ≤ B + 300 → zLI x a r t B9 h9 → Z Γ l mW_law d mc ms FN 3260 [some (.ref (zgS Γ)), some (.ref x), some (.ref a), some (.ref r), some (.ref t), some (.int (nI i)), w6, w7, w8] [] h9 n9 k9 ks9) : Z Γ l mW_law d mc ms FN 592 [some (.ref (zgS Γ)), some (.ref x), some (.ref a), some (.ref r), some (.ref t), some (.int (nI i)), v6, v7, v8] [] h n k ks := by
  obtain ⟨g, P, c, sv, er, fl, T, np, L, f0, f1, s8, s16, s17, s18, s19, s20, hX, m0, m1, hM, h3, h4, hc8, hLb, her, hfl⟩ := hLI
  have hI : IG B g := hX.2.2.1
  obtain ⟨⟨st, hst, hx, htr⟩, hXr⟩ := id hX
  refine zs_aload_n (pc := 592) dW_law_592 rfl ?_
  refine zs_aload_n (pc := 593) dW_law_593 rfl ?_
  refine zs_iload (pc := 594) dW_law_594 rfl ?_
  refine zs_iconst (pc := 596) dW_law_596 zi_1 ?_
  refine zn_iadd (pc := 597) dW_law_597 ?_
  refine zs_sld (pc := 598) dW_law_598 (vp_in_nI (by omega) (by omega)) ?_
  refine zs_aload_n (pc := 599) dW_law_599 rfl ?_
  refine zs_iload (pc := 600) dW_law_600 rfl ?_
  refine zs_iconst (pc := 602) dW_law_602 zi_2 ?_
  refine zn_iadd (pc := 603) dW_law_603 ?_
  refine zs_sld (pc := 604) dW_law_604 (vp_in_nI (by omega) (by omega)) ?_
  refine zs_aload_n (pc := 605) dW_law_605 rfl ?_
  refine zcX_4 (pc := 606) (d2 := d - 1) (s_W_merge hl (by omega) hX (by omega) _ _ (by omega) h3) dW_law_606 kW_199 mdW_merge msW_merge (by decide) (Nat.le_of_ble_eq_true rfl) (by omega) (by omega) (by omega) (fun v h1 n1 hq => ?_) (fun E h1 n1 hq => absurd hq.1 (by intro q; cases q))
  obtain ⟨hv9, hn9, hf9, hX1, f2, h31, hv0⟩ := hq
  obtain rfl := Sum.inl.inj hv9
  have hM1 := MS.sm hM (h1 := h1) (fun q q1 q2 => hf9 q (by omega) (by omega))
  have m01 := (hf9 a (by omega) (by omega)).trans m0
  have m11 := (hf9 (a + 1) (by omega) (by omega)).trans m1
  have h41 := (hf9 t (by omega) (by omega)).trans h4
  rw [← z2_id m01 m11]
  obtain ⟨⟨A2, m2⟩, ⟨S, mS, mS2⟩, ⟨U, m4, mP⟩, m5, m6, m7, m8, ⟨C9, m9⟩⟩ := id hM1
  have hlt : (zdo g 5 (zgX Γ (nI (i + 1)).toNatClampNeg) (zgX Γ (nI (i + 2)).toNatClampNeg)).1 < 4 := (zdo_lim (g := g) (k := 5) (by decide) _ _).1
  refine zs_istore (pc := 609) (ls2 := [_, _, _, _, _, _, _, _, _]) dW_law_609 (Nat.le_of_ble_eq_true rfl) rfl ?_
  refine zs_aload_n (pc := 611) dW_law_611 rfl ?_
  refine zs_aload_n (pc := 612) dW_law_612 rfl ?_
  refine zs_iload (pc := 613) dW_law_613 rfl ?_
  refine zs_iconst (pc := 615) dW_law_615 zi_1 ?_
  refine zn_iadd (pc := 616) dW_law_616 ?_
  refine zs_sld (pc := 617) dW_law_617 (vp_in_nI (by omega) (by omega)) ?_
  refine zs_aload_n (pc := 618) dW_law_618 rfl ?_
  refine zs_iload (pc := 619) dW_law_619 rfl ?_
  refine zs_iconst (pc := 621) dW_law_621 zi_2 ?_
  refine zn_iadd (pc := 622) dW_law_622 ?_
  refine zs_sld (pc := 623) dW_law_623 (vp_in_nI (by omega) (by omega)) ?_
  refine zcVQ_2 (pc := 624) (d2 := d - 1) (s_M_merge hl (by omega) m2 m4 mP hc8 hI (by omega) _ _) dW_law_624 kW_201 mdM_merge miM_merge mvM_merge rfl (by first | exact z2_a | exact hx) rfl (Nat.le_of_ble_eq_true rfl) (by omega) (by omega) (by omega) (fun v h1 n1 hq => ?_) (fun E h1 n1 hq => absurd hq.1 (by intro q; cases q))
  obtain ⟨hv8, rfl, U2, rfl, hP2⟩ := hq
  obtain rfl := Sum.inl.inj hv8
  refine zs_istore (pc := 627) (ls2 := [_, _, _, _, _, _, _, _, _]) dW_law_627 (Nat.le_of_ble_eq_true rfl) rfl ?_
  refine zs_aload_n (pc := 629) dW_law_629 rfl ?_
  refine zcV1_0 (pc := 630) (d2 := d - 1) (s_M_thrown hl) dW_law_630 kW_183 mdM_thrown miM_thrown mvM_thrown rfl (by first | exact z2_a | exact hx) rfl (Nat.le_of_ble_eq_true rfl) (by omega) (by omega) (by omega) ?_
  refine zs_iload (pc := 633) dW_law_633 rfl ?_
  refine zs_icmp_eq (pc := 635) 640 dW_law_635 rfl (fun _ => ?_) (fun h9 => absurd h9 (fun q => q rfl))
  refine zs_iload (pc := 640) dW_law_640 rfl ?_
  refine zs_if_ne (pc := 642) 657 dW_law_642 rfl (fun hb9 => ?_) (fun hb9 => ?_)
  · refine zs_goto (pc := 657) 3260 dW_law_657 rfl ?_
    exact K _ _ _ _ _ _ _ _ (by omega) (by omega) (by omega) (zLI_mk ha hr ht hX1 (fun q hq => (zu_n (by omega)).trans (zu_n (by omega))) ⟨⟨g, by rw [zu_n (by omega)]; exact zu_s⟩, ⟨S, by rw [zu_n (by omega), zu_n (by omega)]; exact mS, mS2⟩, ⟨U2, zu_s, hP2⟩, by rw [zu_n (by omega), zu_n (by omega)]; exact m5, ⟨m6.choose, by rw [zu_n (by omega), zu_n (by omega)]; exact m6.choose_spec.1, m6.choose_spec.2⟩, by rw [zu_n (by omega), zu_n (by omega)]; exact m7, by rw [zu_n (by omega), zu_n (by omega)]; exact m8, ⟨C9, by rw [zu_n (by omega), zu_n (by omega)]; exact m9⟩⟩ h31 h41 (zkc_b hc8) hLb her hfl)
  · have e0 : (zdo g 5 (zgX Γ (nI (i + 1)).toNatClampNeg) (zgX Γ (nI (i + 2)).toNatClampNeg)).1 = 0 := Decidable.byContradiction fun q => nI_ne (by omega) (by decide) q hb9
    have z0 : (nI 0).toNatClampNeg = 0 := by decide
    have em : (zma (zdo g 5 (zgX Γ (nI (i + 1)).toNatClampNeg) (zgX Γ (nI (i + 2)).toNatClampNeg))) = (zans 5 (zdo g 5 (zgX Γ (nI (i + 1)).toNatClampNeg) (zgX Γ (nI (i + 2)).toNatClampNeg))) := by unfold zma zans; rw [if_pos e0, if_pos e0]
    have ec : lg_cmp (f2 (nI 0).toNatClampNeg) (zma (zdo g 5 (zgX Γ (nI (i + 1)).toNatClampNeg) (zgX Γ (nI (i + 2)).toNatClampNeg))).toInt64 = 0 := by rw [z0, hv0 e0, em]; exact lg_same
    refine zs_aload_n (pc := 645) dW_law_645 rfl ?_
    refine zs_iconst (pc := 646) dW_law_646 zi_0 ?_
    refine zs_lald (pc := 647) dW_law_647 (by (rw [z2_n (by omega) (by omega), zu_n (by omega), zu_n (by omega)]; exact h31)) (vp_in_nI (by decide) (by decide)) ?_
    refine zs_iload (pc := 648) dW_law_648 rfl ?_
    refine zs_i2l (pc := 650) dW_law_650 ?_
    refine zs_lcmp (pc := 651) dW_law_651 ?_
    refine zs_if_eq (pc := 652) 657 dW_law_652 rfl (fun _ => ?_) (fun h9 => absurd h9 (fun q => q ec))
    refine zs_goto (pc := 657) 3260 dW_law_657 rfl ?_
    exact K _ _ _ _ _ _ _ _ (by omega) (by omega) (by omega) (zLI_mk ha hr ht hX1 (fun q hq => (zu_n (by omega)).trans (zu_n (by omega))) ⟨⟨g, by rw [zu_n (by omega)]; exact zu_s⟩, ⟨S, by rw [zu_n (by omega), zu_n (by omega)]; exact mS, mS2⟩, ⟨U2, zu_s, hP2⟩, by rw [zu_n (by omega), zu_n (by omega)]; exact m5, ⟨m6.choose, by rw [zu_n (by omega), zu_n (by omega)]; exact m6.choose_spec.1, m6.choose_spec.2⟩, by rw [zu_n (by omega), zu_n (by omega)]; exact m7, by rw [zu_n (by omega), zu_n (by omega)]; exact m8, ⟨C9, by rw [zu_n (by omega), zu_n (by omega)]; exact m9⟩⟩ h31 h41 (zkc_b hc8) hLb her hfl)
theorem sL_startSegment {Γ : zG} {l : Launch} (hl : l.stackTraces = false) {d mc ms : Nat} (hd : 12 ≤ d) {FN : List Frame → Array Value → State → State → Prop} {x a r t n k ks i B : Nat} {h : zH} {v6 v7 v8 : Option Value} (ha : a = x + 481) (hr : r = a + 10) (ht : t = a + 11) (hB : B + 640 < 2 ^ 20) (hi : i + 4 ≤ zgL Γ) (hZ : zgL Γ < 2 ^ 31) (hk : k + 1 ≤ mc) (hks : ks + 6 ≤ ms) (hLI : zLI x a r t B h) (K : ∀ (h9 : zH) (n9 k9 ks9 B9 : Nat) (w6 w7 w8 : Option Value), k9 ≤ k + 1 → ks9 ≤ ks + 6 → B9 ≤ B + 300 → zLI x a r t B9 h9 → Z Γ l mW_law d mc ms FN 3260 [some (.ref (zgS Γ)), some (.ref x), some (.ref a), some (.ref r), some (.ref t), some (.int (nI i)), w6, w7, w8] [] h9 n9 k9 ks9) : Z Γ l mW_law d mc ms FN 660 [some (.ref (zgS Γ)), some (.ref x), some (.ref a), some (.ref r), some (.ref t), some (.int (nI i)), v6, v7, v8] [] h n k ks := by
  obtain ⟨g, P, c, sv, er, fl, T, np, L, f0, f1, s8, s16, s17, s18, s19, s20, hX, m0, m1, hM, h3, h4, hc8, hLb, her, hfl⟩ := hLI
  have hI : IG B g := hX.2.2.1
  obtain ⟨⟨st, hst, hx, htr⟩, hXr⟩ := id hX
  refine zs_aload_n (pc := 660) dW_law_660 rfl ?_
  refine zs_aload_n (pc := 661) dW_law_661 rfl ?_
  refine zcX_2 (pc := 662) (d2 := d - 1) (s_W_startSegment hl (by omega) hX (by omega)  (by omega) h3) dW_law_662 kW_202 mdW_startSegment msW_startSegment (by decide) (Nat.le_of_ble_eq_true rfl) (by omega) (by omega) (by omega) (fun v h1 n1 hq => ?_) (fun E h1 n1 hq => absurd hq.1 (by intro q; cases q))
  obtain ⟨hv9, hn9, hf9, hX1, f2, h31, hv0⟩ := hq
  obtain rfl := Sum.inl.inj hv9
  have hM1 := MS.sm hM (h1 := h1) (fun q q1 q2 => hf9 q (by omega) (by omega))
  have m01 := (hf9 a (by omega) (by omega)).trans m0
  have m11 := (hf9 (a + 1) (by omega) (by omega)).trans m1
  have h41 := (hf9 t (by omega) (by omega)).trans h4
  rw [← z2_id m01 m11]
  obtain ⟨⟨A2, m2⟩, ⟨S, mS, mS2⟩, ⟨U, m4, mP⟩, m5, m6, m7, m8, ⟨C9, m9⟩⟩ := id hM1
  have hlt : (zdo g 6 (nI 0) (nI 0)).1 < 2 := (zdo_lim (g := g) (k := 6) (by decide) _ _).1
  refine zs_istore (pc := 665) (ls2 := [_, _, _, _, _, _, _, _, _]) dW_law_665 (Nat.le_of_ble_eq_true rfl) rfl ?_
  refine zs_aload_n (pc := 667) dW_law_667 rfl ?_
  refine zcVQ_0 (pc := 668) (d2 := d - 1) (s_M_startSegment hl (by omega) m2 m4 mP hc8 hI (by omega)) dW_law_668 kW_205 mdM_startSegment miM_startSegment mvM_startSegment rfl (by first | exact z2_a | exact hx) rfl (Nat.le_of_ble_eq_true rfl) (by omega) (by omega) (by omega) (fun v h1 n1 hq => ?_) (fun E h1 n1 hq => absurd hq.1 (by intro q; cases q))
  obtain ⟨hv8, rfl, U2, rfl, hP2⟩ := hq
  obtain rfl := Sum.inl.inj hv8
  refine zs_istore (pc := 671) (ls2 := [_, _, _, _, _, _, _, _, _]) dW_law_671 (Nat.le_of_ble_eq_true rfl) rfl ?_
  refine zs_aload_n (pc := 673) dW_law_673 rfl ?_
  refine zcV1_0 (pc := 674) (d2 := d - 1) (s_M_thrown hl) dW_law_674 kW_183 mdM_thrown miM_thrown mvM_thrown rfl (by first | exact z2_a | exact hx) rfl (Nat.le_of_ble_eq_true rfl) (by omega) (by omega) (by omega) ?_
  refine zs_iload (pc := 677) dW_law_677 rfl ?_
  refine zs_icmp_eq (pc := 679) 684 dW_law_679 rfl (fun _ => ?_) (fun h9 => absurd h9 (fun q => q rfl))
  refine zs_iload (pc := 684) dW_law_684 rfl ?_
  refine zs_if_ne (pc := 686) 701 dW_law_686 rfl (fun hb9 => ?_) (fun hb9 => ?_)
  · refine zs_goto (pc := 701) 3260 dW_law_701 rfl ?_
    exact K _ _ _ _ _ _ _ _ (by omega) (by omega) (by omega) (zLI_mk ha hr ht hX1 (fun q hq => (zu_n (by omega)).trans (zu_n (by omega))) ⟨⟨g, by rw [zu_n (by omega)]; exact zu_s⟩, ⟨S, by rw [zu_n (by omega), zu_n (by omega)]; exact mS, mS2⟩, ⟨U2, zu_s, hP2⟩, by rw [zu_n (by omega), zu_n (by omega)]; exact m5, ⟨m6.choose, by rw [zu_n (by omega), zu_n (by omega)]; exact m6.choose_spec.1, m6.choose_spec.2⟩, by rw [zu_n (by omega), zu_n (by omega)]; exact m7, by rw [zu_n (by omega), zu_n (by omega)]; exact m8, ⟨C9, by rw [zu_n (by omega), zu_n (by omega)]; exact m9⟩⟩ h31 h41 (zkc_b hc8) hLb her hfl)
  · have e0 : (zdo g 6 (nI 0) (nI 0)).1 = 0 := Decidable.byContradiction fun q => nI_ne (by omega) (by decide) q hb9
    have z0 : (nI 0).toNatClampNeg = 0 := by decide
    have em : (zma (zdo g 6 (nI 0) (nI 0))) = (zans 6 (zdo g 6 (nI 0) (nI 0))) := by unfold zma zans; rw [if_pos e0, if_pos e0]
    have ec : lg_cmp (f2 (nI 0).toNatClampNeg) (zma (zdo g 6 (nI 0) (nI 0))).toInt64 = 0 := by rw [z0, hv0 e0, em]; exact lg_same
    refine zs_aload_n (pc := 689) dW_law_689 rfl ?_
    refine zs_iconst (pc := 690) dW_law_690 zi_0 ?_
    refine zs_lald (pc := 691) dW_law_691 (by (rw [z2_n (by omega) (by omega), zu_n (by omega), zu_n (by omega)]; exact h31)) (vp_in_nI (by decide) (by decide)) ?_
    refine zs_iload (pc := 692) dW_law_692 rfl ?_
    refine zs_i2l (pc := 694) dW_law_694 ?_
    refine zs_lcmp (pc := 695) dW_law_695 ?_
    refine zs_if_eq (pc := 696) 701 dW_law_696 rfl (fun _ => ?_) (fun h9 => absurd h9 (fun q => q ec))
    refine zs_goto (pc := 701) 3260 dW_law_701 rfl ?_
    exact K _ _ _ _ _ _ _ _ (by omega) (by omega) (by omega) (zLI_mk ha hr ht hX1 (fun q hq => (zu_n (by omega)).trans (zu_n (by omega))) ⟨⟨g, by rw [zu_n (by omega)]; exact zu_s⟩, ⟨S, by rw [zu_n (by omega), zu_n (by omega)]; exact mS, mS2⟩, ⟨U2, zu_s, hP2⟩, by rw [zu_n (by omega), zu_n (by omega)]; exact m5, ⟨m6.choose, by rw [zu_n (by omega), zu_n (by omega)]; exact m6.choose_spec.1, m6.choose_spec.2⟩, by rw [zu_n (by omega), zu_n (by omega)]; exact m7, by rw [zu_n (by omega), zu_n (by omega)]; exact m8, ⟨C9, by rw [zu_n (by omega), zu_n (by omega)]; exact m9⟩⟩ h31 h41 (zkc_b hc8) hLb her hfl)
theorem sL_joinSegments {Γ : zG} {l : Launch} (hl : l.stackTraces = false) {d mc ms : Nat} (hd : 12 ≤ d) {FN : List Frame → Array Value → State → State → Prop} {x a r t n k ks i B : Nat} {h : zH} {v6 v7 v8 : Option Value} (ha : a = x + 481) (hr : r = a + 10) (ht : t = a + 11) (hB : B + 640 < 2 ^ 20) (hi : i + 4 ≤ zgL Γ) (hZ : zgL Γ < 2 ^ 31) (hk : k + 1 ≤ mc) (hks : ks + 6 ≤ ms) (hLI : zLI x a r t B h) (K : ∀ (h9 : zH) (n9 k9 ks9 B9 : Nat) (w6 w7 w8 : Option Value), k9 ≤ k + 1 → ks9 ≤ ks + 6 → B9 ≤ B + 300 → zLI x a r t B9 h9 → Z Γ l mW_law d mc ms FN 3260 [some (.ref (zgS Γ)), some (.ref x), some (.ref a), some (.ref r), some (.ref t), some (.int (nI i)), w6, w7, w8] [] h9 n9 k9 ks9) : Z Γ l mW_law d mc ms FN 704 [some (.ref (zgS Γ)), some (.ref x), some (.ref a), some (.ref r), some (.ref t), some (.int (nI i)), v6, v7, v8] [] h n k ks := by
  obtain ⟨g, P, c, sv, er, fl, T, np, L, f0, f1, s8, s16, s17, s18, s19, s20, hX, m0, m1, hM, h3, h4, hc8, hLb, her, hfl⟩ := hLI
  have hI : IG B g := hX.2.2.1
  obtain ⟨⟨st, hst, hx, htr⟩, hXr⟩ := id hX
  refine zs_aload_n (pc := 704) dW_law_704 rfl ?_
  refine zs_aload_n (pc := 705) dW_law_705 rfl ?_
  refine zs_iload (pc := 706) dW_law_706 rfl ?_
  refine zs_iconst (pc := 708) dW_law_708 zi_1 ?_
  refine zn_iadd (pc := 709) dW_law_709 ?_
  refine zs_sld (pc := 710) dW_law_710 (vp_in_nI (by omega) (by omega)) ?_
  refine zs_aload_n (pc := 711) dW_law_711 rfl ?_
  refine zcX_3 (pc := 712) (d2 := d - 1) (s_W_joinSegments hl (by omega) hX (by omega) _ (by omega) h3) dW_law_712 kW_206 mdW_joinSegments msW_joinSegments (by decide) (Nat.le_of_ble_eq_true rfl) (by omega) (by omega) (by omega) (fun v h1 n1 hq => ?_) (fun E h1 n1 hq => absurd hq.1 (by intro q; cases q))
  obtain ⟨hv9, hn9, hf9, hX1, f2, h31, hv0⟩ := hq
  obtain rfl := Sum.inl.inj hv9
  have hM1 := MS.sm hM (h1 := h1) (fun q q1 q2 => hf9 q (by omega) (by omega))
  have m01 := (hf9 a (by omega) (by omega)).trans m0
  have m11 := (hf9 (a + 1) (by omega) (by omega)).trans m1
  have h41 := (hf9 t (by omega) (by omega)).trans h4
  rw [← z2_id m01 m11]
  obtain ⟨⟨A2, m2⟩, ⟨S, mS, mS2⟩, ⟨U, m4, mP⟩, m5, m6, m7, m8, ⟨C9, m9⟩⟩ := id hM1
  have hlt : (zdo g 7 (zgX Γ (nI (i + 1)).toNatClampNeg) (nI 0)).1 < 3 := (zdo_lim (g := g) (k := 7) (by decide) _ _).1
  refine zs_istore (pc := 715) (ls2 := [_, _, _, _, _, _, _, _, _]) dW_law_715 (Nat.le_of_ble_eq_true rfl) rfl ?_
  refine zs_aload_n (pc := 717) dW_law_717 rfl ?_
  refine zs_aload_n (pc := 718) dW_law_718 rfl ?_
  refine zs_iload (pc := 719) dW_law_719 rfl ?_
  refine zs_iconst (pc := 721) dW_law_721 zi_1 ?_
  refine zn_iadd (pc := 722) dW_law_722 ?_
  refine zs_sld (pc := 723) dW_law_723 (vp_in_nI (by omega) (by omega)) ?_
  refine zcVQ_1 (pc := 724) (d2 := d - 1) (s_M_joinSegments hl (by omega) m2 m4 mP hc8 hI (by omega) _) dW_law_724 kW_208 mdM_joinSegments miM_joinSegments mvM_joinSegments rfl (by first | exact z2_a | exact hx) rfl (Nat.le_of_ble_eq_true rfl) (by omega) (by omega) (by omega) (fun v h1 n1 hq => ?_) (fun E h1 n1 hq => absurd hq.1 (by intro q; cases q))
  obtain ⟨hv8, rfl, U2, rfl, hP2⟩ := hq
  obtain rfl := Sum.inl.inj hv8
  refine zs_istore (pc := 727) (ls2 := [_, _, _, _, _, _, _, _, _]) dW_law_727 (Nat.le_of_ble_eq_true rfl) rfl ?_
  refine zs_aload_n (pc := 729) dW_law_729 rfl ?_
  refine zcV1_0 (pc := 730) (d2 := d - 1) (s_M_thrown hl) dW_law_730 kW_183 mdM_thrown miM_thrown mvM_thrown rfl (by first | exact z2_a | exact hx) rfl (Nat.le_of_ble_eq_true rfl) (by omega) (by omega) (by omega) ?_
  refine zs_iload (pc := 733) dW_law_733 rfl ?_
  refine zs_icmp_eq (pc := 735) 740 dW_law_735 rfl (fun _ => ?_) (fun h9 => absurd h9 (fun q => q rfl))
  refine zs_iload (pc := 740) dW_law_740 rfl ?_
  refine zs_if_ne (pc := 742) 757 dW_law_742 rfl (fun hb9 => ?_) (fun hb9 => ?_)
  · refine zs_goto (pc := 757) 3260 dW_law_757 rfl ?_
    exact K _ _ _ _ _ _ _ _ (by omega) (by omega) (by omega) (zLI_mk ha hr ht hX1 (fun q hq => (zu_n (by omega)).trans (zu_n (by omega))) ⟨⟨g, by rw [zu_n (by omega)]; exact zu_s⟩, ⟨S, by rw [zu_n (by omega), zu_n (by omega)]; exact mS, mS2⟩, ⟨U2, zu_s, hP2⟩, by rw [zu_n (by omega), zu_n (by omega)]; exact m5, ⟨m6.choose, by rw [zu_n (by omega), zu_n (by omega)]; exact m6.choose_spec.1, m6.choose_spec.2⟩, by rw [zu_n (by omega), zu_n (by omega)]; exact m7, by rw [zu_n (by omega), zu_n (by omega)]; exact m8, ⟨C9, by rw [zu_n (by omega), zu_n (by omega)]; exact m9⟩⟩ h31 h41 (zkc_b hc8) hLb her hfl)
  · have e0 : (zdo g 7 (zgX Γ (nI (i + 1)).toNatClampNeg) (nI 0)).1 = 0 := Decidable.byContradiction fun q => nI_ne (by omega) (by decide) q hb9
    have z0 : (nI 0).toNatClampNeg = 0 := by decide
    have em : (zma (zdo g 7 (zgX Γ (nI (i + 1)).toNatClampNeg) (nI 0))) = (zans 7 (zdo g 7 (zgX Γ (nI (i + 1)).toNatClampNeg) (nI 0))) := by unfold zma zans; rw [if_pos e0, if_pos e0]
    have ec : lg_cmp (f2 (nI 0).toNatClampNeg) (zma (zdo g 7 (zgX Γ (nI (i + 1)).toNatClampNeg) (nI 0))).toInt64 = 0 := by rw [z0, hv0 e0, em]; exact lg_same
    refine zs_aload_n (pc := 745) dW_law_745 rfl ?_
    refine zs_iconst (pc := 746) dW_law_746 zi_0 ?_
    refine zs_lald (pc := 747) dW_law_747 (by (rw [z2_n (by omega) (by omega), zu_n (by omega), zu_n (by omega)]; exact h31)) (vp_in_nI (by decide) (by decide)) ?_
    refine zs_iload (pc := 748) dW_law_748 rfl ?_
    refine zs_i2l (pc := 750) dW_law_750 ?_
    refine zs_lcmp (pc := 751) dW_law_751 ?_
    refine zs_if_eq (pc := 752) 757 dW_law_752 rfl (fun _ => ?_) (fun h9 => absurd h9 (fun q => q ec))
    refine zs_goto (pc := 757) 3260 dW_law_757 rfl ?_
    exact K _ _ _ _ _ _ _ _ (by omega) (by omega) (by omega) (zLI_mk ha hr ht hX1 (fun q hq => (zu_n (by omega)).trans (zu_n (by omega))) ⟨⟨g, by rw [zu_n (by omega)]; exact zu_s⟩, ⟨S, by rw [zu_n (by omega), zu_n (by omega)]; exact mS, mS2⟩, ⟨U2, zu_s, hP2⟩, by rw [zu_n (by omega), zu_n (by omega)]; exact m5, ⟨m6.choose, by rw [zu_n (by omega), zu_n (by omega)]; exact m6.choose_spec.1, m6.choose_spec.2⟩, by rw [zu_n (by omega), zu_n (by omega)]; exact m7, by rw [zu_n (by omega), zu_n (by omega)]; exact m8, ⟨C9, by rw [zu_n (by omega), zu_n (by omega)]; exact m9⟩⟩ h31 h41 (zkc_b hc8) hLb her hfl)
theorem sL_search {Γ : zG} {l : Launch} (hl : l.stackTraces = false) {d mc ms : Nat} (hd : 12 ≤ d) {FN : List Frame → Array Value → State → State → Prop} {x a r t n k ks i B : Nat} {h : zH} {v6 v7 v8 : Option Value} (ha : a = x + 481) (hr : r = a + 10) (ht : t = a + 11) (hB : B + 640 < 2 ^ 20) (hi : i + 4 ≤ zgL Γ) (hZ : zgL Γ < 2 ^ 31) (hk : k + 1 ≤ mc) (hks : ks + 6 ≤ ms) (hLI : zLI x a r t B h) (K : ∀ (h9 : zH) (n9 k9 ks9 B9 : Nat) (w6 w7 w8 : Option Value), k9 ≤ k + 1 → ks9 ≤ ks + 6 → B9 ≤ B + 300 → zLI x a r t B9 h9 → Z Γ l mW_law d mc ms FN 3260 [some (.ref (zgS Γ)), some (.ref x), some (.ref a), some (.ref r), some (.ref t), some (.int (nI i)), w6, w7, w8] [] h9 n9 k9 ks9) : Z Γ l mW_law d mc ms FN 760 [some (.ref (zgS Γ)), some (.ref x), some (.ref a), some (.ref r), some (.ref t), some (.int (nI i)), v6, v7, v8] [] h n k ks := by
  obtain ⟨g, P, c, sv, er, fl, T, np, L, f0, f1, s8, s16, s17, s18, s19, s20, hX, m0, m1, hM, h3, h4, hc8, hLb, her, hfl⟩ := hLI
  have hI : IG B g := hX.2.2.1
  obtain ⟨⟨st, hst, hx, htr⟩, hXr⟩ := id hX
  refine zs_aload_n (pc := 760) dW_law_760 rfl ?_
  refine zs_aload_n (pc := 761) dW_law_761 rfl ?_
  refine zs_iload (pc := 762) dW_law_762 rfl ?_
  refine zs_iconst (pc := 764) dW_law_764 zi_1 ?_
  refine zn_iadd (pc := 765) dW_law_765 ?_
  refine zs_sld (pc := 766) dW_law_766 (vp_in_nI (by omega) (by omega)) ?_
  refine zs_aload_n (pc := 767) dW_law_767 rfl ?_
  refine zs_iload (pc := 768) dW_law_768 rfl ?_
  refine zs_iconst (pc := 770) dW_law_770 zi_2 ?_
  refine zn_iadd (pc := 771) dW_law_771 ?_
  refine zs_sld (pc := 772) dW_law_772 (vp_in_nI (by omega) (by omega)) ?_
  refine zs_aload_n (pc := 773) dW_law_773 rfl ?_
  refine zcX_4 (pc := 774) (d2 := d - 1) (s_W_search hl (by omega) hX (by omega) _ _ (by omega) h3) dW_law_774 kW_209 mdW_search msW_search (by decide) (Nat.le_of_ble_eq_true rfl) (by omega) (by omega) (by omega) (fun v h1 n1 hq => ?_) (fun E h1 n1 hq => absurd hq.1 (by intro q; cases q))
  obtain ⟨hv9, hn9, hf9, hX1, f2, h31, hv0⟩ := hq
  obtain rfl := Sum.inl.inj hv9
  have hM1 := MS.sm hM (h1 := h1) (fun q q1 q2 => hf9 q (by omega) (by omega))
  have m01 := (hf9 a (by omega) (by omega)).trans m0
  have m11 := (hf9 (a + 1) (by omega) (by omega)).trans m1
  have h41 := (hf9 t (by omega) (by omega)).trans h4
  rw [← z2_id m01 m11]
  obtain ⟨⟨A2, m2⟩, ⟨S, mS, mS2⟩, ⟨U, m4, mP⟩, m5, m6, m7, m8, ⟨C9, m9⟩⟩ := id hM1
  have hlt : (zdo g 8 (zgX Γ (nI (i + 1)).toNatClampNeg) (zgX Γ (nI (i + 2)).toNatClampNeg)).1 < 2 := (zdo_lim (g := g) (k := 8) (by decide) _ _).1
  refine zs_istore (pc := 777) (ls2 := [_, _, _, _, _, _, _, _, _]) dW_law_777 (Nat.le_of_ble_eq_true rfl) rfl ?_
  refine zs_aload_n (pc := 779) dW_law_779 rfl ?_
  refine zs_aload_n (pc := 780) dW_law_780 rfl ?_
  refine zs_iload (pc := 781) dW_law_781 rfl ?_
  refine zs_iconst (pc := 783) dW_law_783 zi_1 ?_
  refine zn_iadd (pc := 784) dW_law_784 ?_
  refine zs_sld (pc := 785) dW_law_785 (vp_in_nI (by omega) (by omega)) ?_
  refine zs_aload_n (pc := 786) dW_law_786 rfl ?_
  refine zs_iload (pc := 787) dW_law_787 rfl ?_
  refine zs_iconst (pc := 789) dW_law_789 zi_2 ?_
  refine zn_iadd (pc := 790) dW_law_790 ?_
  refine zs_sld (pc := 791) dW_law_791 (vp_in_nI (by omega) (by omega)) ?_
  refine zcVQ_2 (pc := 792) (d2 := d - 1) (s_M_search hl (by omega) m2 m4 mP hc8 hI (by omega) _ _) dW_law_792 kW_211 mdM_search miM_search mvM_search rfl (by first | exact z2_a | exact hx) rfl (Nat.le_of_ble_eq_true rfl) (by omega) (by omega) (by omega) (fun v h1 n1 hq => ?_) (fun E h1 n1 hq => absurd hq.1 (by intro q; cases q))
  obtain ⟨hv8, rfl, U2, rfl, hP2⟩ := hq
  obtain rfl := Sum.inl.inj hv8
  refine zs_istore (pc := 795) (ls2 := [_, _, _, _, _, _, _, _, _]) dW_law_795 (Nat.le_of_ble_eq_true rfl) rfl ?_
  refine zs_aload_n (pc := 797) dW_law_797 rfl ?_
  refine zcV1_0 (pc := 798) (d2 := d - 1) (s_M_thrown hl) dW_law_798 kW_183 mdM_thrown miM_thrown mvM_thrown rfl (by first | exact z2_a | exact hx) rfl (Nat.le_of_ble_eq_true rfl) (by omega) (by omega) (by omega) ?_
  refine zs_iload (pc := 801) dW_law_801 rfl ?_
  refine zs_icmp_eq (pc := 803) 808 dW_law_803 rfl (fun _ => ?_) (fun h9 => absurd h9 (fun q => q rfl))
  refine zs_iload (pc := 808) dW_law_808 rfl ?_
  refine zs_if_ne (pc := 810) 825 dW_law_810 rfl (fun hb9 => ?_) (fun hb9 => ?_)
  · refine zs_goto (pc := 825) 3260 dW_law_825 rfl ?_
    exact K _ _ _ _ _ _ _ _ (by omega) (by omega) (by omega) (zLI_mk ha hr ht hX1 (fun q hq => (zu_n (by omega)).trans (zu_n (by omega))) ⟨⟨g, by rw [zu_n (by omega)]; exact zu_s⟩, ⟨S, by rw [zu_n (by omega), zu_n (by omega)]; exact mS, mS2⟩, ⟨U2, zu_s, hP2⟩, by rw [zu_n (by omega), zu_n (by omega)]; exact m5, ⟨m6.choose, by rw [zu_n (by omega), zu_n (by omega)]; exact m6.choose_spec.1, m6.choose_spec.2⟩, by rw [zu_n (by omega), zu_n (by omega)]; exact m7, by rw [zu_n (by omega), zu_n (by omega)]; exact m8, ⟨C9, by rw [zu_n (by omega), zu_n (by omega)]; exact m9⟩⟩ h31 h41 (zkc_b hc8) hLb her hfl)
  · have e0 : (zdo g 8 (zgX Γ (nI (i + 1)).toNatClampNeg) (zgX Γ (nI (i + 2)).toNatClampNeg)).1 = 0 := Decidable.byContradiction fun q => nI_ne (by omega) (by decide) q hb9
    have z0 : (nI 0).toNatClampNeg = 0 := by decide
    have em : (zma (zdo g 8 (zgX Γ (nI (i + 1)).toNatClampNeg) (zgX Γ (nI (i + 2)).toNatClampNeg))) = (zans 8 (zdo g 8 (zgX Γ (nI (i + 1)).toNatClampNeg) (zgX Γ (nI (i + 2)).toNatClampNeg))) := by unfold zma zans; rw [if_pos e0, if_pos e0]
    have ec : lg_cmp (f2 (nI 0).toNatClampNeg) (zma (zdo g 8 (zgX Γ (nI (i + 1)).toNatClampNeg) (zgX Γ (nI (i + 2)).toNatClampNeg))).toInt64 = 0 := by rw [z0, hv0 e0, em]; exact lg_same
    refine zs_aload_n (pc := 813) dW_law_813 rfl ?_
    refine zs_iconst (pc := 814) dW_law_814 zi_0 ?_
    refine zs_lald (pc := 815) dW_law_815 (by (rw [z2_n (by omega) (by omega), zu_n (by omega), zu_n (by omega)]; exact h31)) (vp_in_nI (by decide) (by decide)) ?_
    refine zs_iload (pc := 816) dW_law_816 rfl ?_
    refine zs_i2l (pc := 818) dW_law_818 ?_
    refine zs_lcmp (pc := 819) dW_law_819 ?_
    refine zs_if_eq (pc := 820) 825 dW_law_820 rfl (fun _ => ?_) (fun h9 => absurd h9 (fun q => q ec))
    refine zs_goto (pc := 825) 3260 dW_law_825 rfl ?_
    exact K _ _ _ _ _ _ _ _ (by omega) (by omega) (by omega) (zLI_mk ha hr ht hX1 (fun q hq => (zu_n (by omega)).trans (zu_n (by omega))) ⟨⟨g, by rw [zu_n (by omega)]; exact zu_s⟩, ⟨S, by rw [zu_n (by omega), zu_n (by omega)]; exact mS, mS2⟩, ⟨U2, zu_s, hP2⟩, by rw [zu_n (by omega), zu_n (by omega)]; exact m5, ⟨m6.choose, by rw [zu_n (by omega), zu_n (by omega)]; exact m6.choose_spec.1, m6.choose_spec.2⟩, by rw [zu_n (by omega), zu_n (by omega)]; exact m7, by rw [zu_n (by omega), zu_n (by omega)]; exact m8, ⟨C9, by rw [zu_n (by omega), zu_n (by omega)]; exact m9⟩⟩ h31 h41 (zkc_b hc8) hLb her hfl)
theorem sL_pass {Γ : zG} {l : Launch} (hl : l.stackTraces = false) {d mc ms : Nat} (hd : 12 ≤ d) {FN : List Frame → Array Value → State → State → Prop} {x a r t n k ks i B : Nat} {h : zH} {v6 v7 v8 : Option Value} (ha : a = x + 481) (hr : r = a + 10) (ht : t = a + 11) (hB : B + 640 < 2 ^ 20) (hi : i + 4 ≤ zgL Γ) (hZ : zgL Γ < 2 ^ 31) (hk : k + 1 ≤ mc) (hks : ks + 6 ≤ ms) (hLI : zLI x a r t B h) (K : ∀ (h9 : zH) (n9 k9 ks9 B9 : Nat) (w6 w7 w8 : Option Value), k9 ≤ k + 1 → ks9 ≤ ks + 6 → B9 ≤ B + 300 → zLI x a r t B9 h9 → Z Γ l mW_law d mc ms FN 3260 [some (.ref (zgS Γ)), some (.ref x), some (.ref a), some (.ref r), some (.ref t), some (.int (nI i)), w6, w7, w8] [] h9 n9 k9 ks9) : Z Γ l mW_law d mc ms FN 828 [some (.ref (zgS Γ)), some (.ref x), some (.ref a), some (.ref r), some (.ref t), some (.int (nI i)), v6, v7, v8] [] h n k ks := by
  obtain ⟨g, P, c, sv, er, fl, T, np, L, f0, f1, s8, s16, s17, s18, s19, s20, hX, m0, m1, hM, h3, h4, hc8, hLb, her, hfl⟩ := hLI
  have hI : IG B g := hX.2.2.1
  obtain ⟨⟨st, hst, hx, htr⟩, hXr⟩ := id hX
  refine zs_aload_n (pc := 828) dW_law_828 rfl ?_
  refine zs_aload_n (pc := 829) dW_law_829 rfl ?_
  refine zs_iload (pc := 830) dW_law_830 rfl ?_
  refine zs_iconst (pc := 832) dW_law_832 zi_1 ?_
  refine zn_iadd (pc := 833) dW_law_833 ?_
  refine zs_sld (pc := 834) dW_law_834 (vp_in_nI (by omega) (by omega)) ?_
  refine zs_aload_n (pc := 835) dW_law_835 rfl ?_
  refine zcX_3 (pc := 836) (d2 := d - 1) (s_W_pass hl (by omega) hX (by omega) _ (by omega) h3) dW_law_836 kW_212 mdW_pass msW_pass (by decide) (Nat.le_of_ble_eq_true rfl) (by omega) (by omega) (by omega) (fun v h1 n1 hq => ?_) (fun E h1 n1 hq => absurd hq.1 (by intro q; cases q))
  obtain ⟨hv9, hn9, hf9, hX1, f2, h31, hv0⟩ := hq
  obtain rfl := Sum.inl.inj hv9
  have hM1 := MS.sm hM (h1 := h1) (fun q q1 q2 => hf9 q (by omega) (by omega))
  have m01 := (hf9 a (by omega) (by omega)).trans m0
  have m11 := (hf9 (a + 1) (by omega) (by omega)).trans m1
  have h41 := (hf9 t (by omega) (by omega)).trans h4
  rw [← z2_id m01 m11]
  obtain ⟨⟨A2, m2⟩, ⟨S, mS, mS2⟩, ⟨U, m4, mP⟩, m5, m6, m7, m8, ⟨C9, m9⟩⟩ := id hM1
  have hlt : (zdo g 9 (zgX Γ (nI (i + 1)).toNatClampNeg) (nI 0)).1 < 2 := (zdo_lim (g := g) (k := 9) (by decide) _ _).1
  refine zs_istore (pc := 839) (ls2 := [_, _, _, _, _, _, _, _, _]) dW_law_839 (Nat.le_of_ble_eq_true rfl) rfl ?_
  refine zs_aload_n (pc := 841) dW_law_841 rfl ?_
  refine zs_aload_n (pc := 842) dW_law_842 rfl ?_
  refine zs_iload (pc := 843) dW_law_843 rfl ?_
  refine zs_iconst (pc := 845) dW_law_845 zi_1 ?_
  refine zn_iadd (pc := 846) dW_law_846 ?_
  refine zs_sld (pc := 847) dW_law_847 (vp_in_nI (by omega) (by omega)) ?_
  refine zcVQ_1 (pc := 848) (d2 := d - 1) (s_M_pass hl (by omega) m2 m4 mP hc8 hI (by omega) _) dW_law_848 kW_214 mdM_pass miM_pass mvM_pass rfl (by first | exact z2_a | exact hx) rfl (Nat.le_of_ble_eq_true rfl) (by omega) (by omega) (by omega) (fun v h1 n1 hq => ?_) (fun E h1 n1 hq => absurd hq.1 (by intro q; cases q))
  obtain ⟨hv8, rfl, U2, rfl, hP2⟩ := hq
  obtain rfl := Sum.inl.inj hv8
  refine zs_istore (pc := 851) (ls2 := [_, _, _, _, _, _, _, _, _]) dW_law_851 (Nat.le_of_ble_eq_true rfl) rfl ?_
  refine zs_aload_n (pc := 853) dW_law_853 rfl ?_
  refine zcV1_0 (pc := 854) (d2 := d - 1) (s_M_thrown hl) dW_law_854 kW_183 mdM_thrown miM_thrown mvM_thrown rfl (by first | exact z2_a | exact hx) rfl (Nat.le_of_ble_eq_true rfl) (by omega) (by omega) (by omega) ?_
  refine zs_iload (pc := 857) dW_law_857 rfl ?_
  refine zs_icmp_eq (pc := 859) 864 dW_law_859 rfl (fun _ => ?_) (fun h9 => absurd h9 (fun q => q rfl))
  refine zs_iload (pc := 864) dW_law_864 rfl ?_
  refine zs_if_ne (pc := 866) 881 dW_law_866 rfl (fun hb9 => ?_) (fun hb9 => ?_)
  · refine zs_goto (pc := 881) 3260 dW_law_881 rfl ?_
    exact K _ _ _ _ _ _ _ _ (by omega) (by omega) (by omega) (zLI_mk ha hr ht hX1 (fun q hq => (zu_n (by omega)).trans (zu_n (by omega))) ⟨⟨g, by rw [zu_n (by omega)]; exact zu_s⟩, ⟨S, by rw [zu_n (by omega), zu_n (by omega)]; exact mS, mS2⟩, ⟨U2, zu_s, hP2⟩, by rw [zu_n (by omega), zu_n (by omega)]; exact m5, ⟨m6.choose, by rw [zu_n (by omega), zu_n (by omega)]; exact m6.choose_spec.1, m6.choose_spec.2⟩, by rw [zu_n (by omega), zu_n (by omega)]; exact m7, by rw [zu_n (by omega), zu_n (by omega)]; exact m8, ⟨C9, by rw [zu_n (by omega), zu_n (by omega)]; exact m9⟩⟩ h31 h41 (zkc_b hc8) hLb her hfl)
  · have e0 : (zdo g 9 (zgX Γ (nI (i + 1)).toNatClampNeg) (nI 0)).1 = 0 := Decidable.byContradiction fun q => nI_ne (by omega) (by decide) q hb9
    have z0 : (nI 0).toNatClampNeg = 0 := by decide
    have em : (zma (zdo g 9 (zgX Γ (nI (i + 1)).toNatClampNeg) (nI 0))) = (zans 9 (zdo g 9 (zgX Γ (nI (i + 1)).toNatClampNeg) (nI 0))) := by unfold zma zans; rw [if_pos e0, if_pos e0]
    have ec : lg_cmp (f2 (nI 0).toNatClampNeg) (zma (zdo g 9 (zgX Γ (nI (i + 1)).toNatClampNeg) (nI 0))).toInt64 = 0 := by rw [z0, hv0 e0, em]; exact lg_same
    refine zs_aload_n (pc := 869) dW_law_869 rfl ?_
    refine zs_iconst (pc := 870) dW_law_870 zi_0 ?_
    refine zs_lald (pc := 871) dW_law_871 (by (rw [z2_n (by omega) (by omega), zu_n (by omega), zu_n (by omega)]; exact h31)) (vp_in_nI (by decide) (by decide)) ?_
    refine zs_iload (pc := 872) dW_law_872 rfl ?_
    refine zs_i2l (pc := 874) dW_law_874 ?_
    refine zs_lcmp (pc := 875) dW_law_875 ?_
    refine zs_if_eq (pc := 876) 881 dW_law_876 rfl (fun _ => ?_) (fun h9 => absurd h9 (fun q => q ec))
    refine zs_goto (pc := 881) 3260 dW_law_881 rfl ?_
    exact K _ _ _ _ _ _ _ _ (by omega) (by omega) (by omega) (zLI_mk ha hr ht hX1 (fun q hq => (zu_n (by omega)).trans (zu_n (by omega))) ⟨⟨g, by rw [zu_n (by omega)]; exact zu_s⟩, ⟨S, by rw [zu_n (by omega), zu_n (by omega)]; exact mS, mS2⟩, ⟨U2, zu_s, hP2⟩, by rw [zu_n (by omega), zu_n (by omega)]; exact m5, ⟨m6.choose, by rw [zu_n (by omega), zu_n (by omega)]; exact m6.choose_spec.1, m6.choose_spec.2⟩, by rw [zu_n (by omega), zu_n (by omega)]; exact m7, by rw [zu_n (by omega), zu_n (by omega)]; exact m8, ⟨C9, by rw [zu_n (by omega), zu_n (by omega)]; exact m9⟩⟩ h31 h41 (zkc_b hc8) hLb her hfl)

