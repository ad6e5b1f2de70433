/-! the law: the steps, 3 -/
theorem sL_sharedDigitsByScan {Γ : zG} {l : Launch} (hl : l.stackTraces = false) {d mc ms : Nat} (hd : 12 ≤ d) {FN : List Frame → Array Value → State → State → Prop} {x a r t n k ks i B : Nat} {h : zH} {v6 v7 v8 : Option Value} (ha : a = x + 481) (hr : r = a + 10) (ht : t = a + 11) (hB : B + 640 < 2 ^ 20) (hi : i + 4 ≤ zgL Γ) (hZ : zgL Γ < 2 ^ 31) (hk : k + 1 ≤ mc) (hks : ks + 6 ≤ ms) (hLI : zLI x a r t B h) (K : ∀ (h9 : zH) (n9 k9 ks9 B9 : Nat) (w6 w7 w8 : Option Value), k9 ≤ k + 1 → ks9 ≤ ks + 6 → B9 ≤ B + 300 → zLI x a r t B9 h9 → Z Γ l mW_law d mc ms FN 3260 [some (.ref (zgS Γ)), some (.ref x), some (.ref a), some (.ref r), some (.ref t), some (.int (nI i)), w6, w7, w8] [] h9 n9 k9 ks9) : Z Γ l mW_law d mc ms FN 2076 [some (.ref (zgS Γ)), some (.ref x), some (.ref a), some (.ref r), some (.ref t), some (.int (nI i)), v6, v7, v8] [] h n k ks := by
  obtain ⟨g, P, c, sv, er, fl, T, np, L, f0, f1, s8, s16, s17, s18, s19, s20, hX, m0, m1, hM, h3, h4, hc8, hLb, her, hfl⟩ := hLI
  have hI : IG B g := hX.2.2.1
  obtain ⟨⟨st, hst, hx, htr⟩, hXr⟩ := id hX
  refine zs_aload_n (pc := 2076) dW_law_2076 rfl ?_
  refine zs_aload_n (pc := 2077) dW_law_2077 rfl ?_
  refine zs_iload (pc := 2078) dW_law_2078 rfl ?_
  refine zs_iconst (pc := 2080) dW_law_2080 zi_1 ?_
  refine zn_iadd (pc := 2081) dW_law_2081 ?_
  refine zs_sld (pc := 2082) dW_law_2082 (vp_in_nI (by omega) (by omega)) ?_
  refine zs_aload_n (pc := 2083) dW_law_2083 rfl ?_
  refine zcX_3 (pc := 2084) (d2 := d - 1) (s_W_sharedDigitsByScan hl (by omega) hX (by omega) _ (by omega) h3) dW_law_2084 kW_278 mdW_sharedDigitsByScan msW_sharedDigitsByScan (by decide) (Nat.le_of_ble_eq_true rfl) (by omega) (by omega) (by omega) (fun v h1 n1 hq => ?_) (fun E h1 n1 hq => absurd hq.1 (by intro q; cases q))
  obtain ⟨hv9, hn9, hf9, hX1, f2, h31, hv0⟩ := hq
  obtain rfl := Sum.inl.inj hv9
  have hM1 := MS.sm hM (h1 := h1) (fun q q1 q2 => hf9 q (by omega) (by omega))
  have m01 := (hf9 a (by omega) (by omega)).trans m0
  have m11 := (hf9 (a + 1) (by omega) (by omega)).trans m1
  have h41 := (hf9 t (by omega) (by omega)).trans h4
  rw [← z2_id m01 m11]
  obtain ⟨⟨A2, m2⟩, ⟨S, mS, mS2⟩, ⟨U, m4, mP⟩, m5, m6, m7, m8, ⟨C9, m9⟩⟩ := id hM1
  have hlt : (aDep g (zgX Γ (nI (i + 1)).toNatClampNeg)).1 < 2 := by
      unfold aDep
      (repeat' split) <;> exact Nat.le_of_ble_eq_true rfl
  refine zs_istore (pc := 2087) (ls2 := [_, _, _, _, _, _, _, _, _]) dW_law_2087 (Nat.le_of_ble_eq_true rfl) rfl ?_
  refine zs_aload_n (pc := 2089) dW_law_2089 rfl ?_
  refine zs_aload_n (pc := 2090) dW_law_2090 rfl ?_
  refine zs_iload (pc := 2091) dW_law_2091 rfl ?_
  refine zs_iconst (pc := 2093) dW_law_2093 zi_1 ?_
  refine zn_iadd (pc := 2094) dW_law_2094 ?_
  refine zs_sld (pc := 2095) dW_law_2095 (vp_in_nI (by omega) (by omega)) ?_
  refine zcV1_1 (pc := 2096) (d2 := d - 1) (s_M_sharedDigitsByScan hl (by omega) hI _) dW_law_2096 kW_280 mdM_sharedDigitsByScan miM_sharedDigitsByScan mvM_sharedDigitsByScan rfl (by first | exact z2_a | exact hx) rfl (Nat.le_of_ble_eq_true rfl) (by omega) (by omega) (by omega) ?_
  refine zs_istore (pc := 2099) (ls2 := [_, _, _, _, _, _, _, _, _]) dW_law_2099 (Nat.le_of_ble_eq_true rfl) rfl ?_
  refine zs_aload_n (pc := 2101) dW_law_2101 rfl ?_
  refine zcV1_0 (pc := 2102) (d2 := d - 1) (s_M_thrown hl) dW_law_2102 kW_183 mdM_thrown miM_thrown mvM_thrown rfl (by first | exact z2_a | exact hx) rfl (Nat.le_of_ble_eq_true rfl) (by omega) (by omega) (by omega) ?_
  refine zs_iload (pc := 2105) dW_law_2105 rfl ?_
  refine zs_icmp_eq (pc := 2107) 2112 dW_law_2107 rfl (fun _ => ?_) (fun h9 => absurd h9 (fun q => q rfl))
  refine zs_iload (pc := 2112) dW_law_2112 rfl ?_
  refine zs_if_ne (pc := 2114) 2129 dW_law_2114 rfl (fun hb9 => ?_) (fun hb9 => ?_)
  · refine zs_goto (pc := 2129) 3260 dW_law_2129 rfl ?_
    exact K _ _ _ _ _ _ _ _ (by omega) (by omega) (by omega) (zLI_mk ha hr ht hX1 (fun _ _ => rfl) hM1 h31 h41 hc8 hLb her hfl)
  · have e0 : (aDep g (zgX Γ (nI (i + 1)).toNatClampNeg)).1 = 0 := Decidable.byContradiction fun q => nI_ne (by omega) (by decide) q hb9
    have z0 : (nI 0).toNatClampNeg = 0 := by decide
    have em : (aDep g (zgX Γ (nI (i + 1)).toNatClampNeg)).2 = (aDep g (zgX Γ (nI (i + 1)).toNatClampNeg)).2 := rfl
    have ec : lg_cmp (f2 (nI 0).toNatClampNeg) (aDep g (zgX Γ (nI (i + 1)).toNatClampNeg)).2.toInt64 = 0 := by rw [z0, hv0 e0, em]; exact lg_same
    refine zs_aload_n (pc := 2117) dW_law_2117 rfl ?_
    refine zs_iconst (pc := 2118) dW_law_2118 zi_0 ?_
    refine zs_lald (pc := 2119) dW_law_2119 (by (rw [z2_n (by omega) (by omega)]; exact h31)) (vp_in_nI (by decide) (by decide)) ?_
    refine zs_iload (pc := 2120) dW_law_2120 rfl ?_
    refine zs_i2l (pc := 2122) dW_law_2122 ?_
    refine zs_lcmp (pc := 2123) dW_law_2123 ?_
    refine zs_if_eq (pc := 2124) 2129 dW_law_2124 rfl (fun _ => ?_) (fun h9 => absurd h9 (fun q => q ec))
    refine zs_goto (pc := 2129) 3260 dW_law_2129 rfl ?_
    exact K _ _ _ _ _ _ _ _ (by omega) (by omega) (by omega) (zLI_mk ha hr ht hX1 (fun _ _ => rfl) hM1 h31 h41 hc8 hLb her hfl)
theorem sL_entriesWith {Γ : zG} {l : Launch} (hl : l.stackTraces = false) {d mc ms : Nat} (hd : 12 ≤ d) {FN : List Frame → Array Value → State → State → Prop} {x a r t n k ks i B : Nat} {h : zH} {v6 v7 v8 : Option Value} (ha : a = x + 481) (hr : r = a + 10) (ht : t = a + 11) (hB : B + 640 < 2 ^ 20) (hi : i + 4 ≤ zgL Γ) (hZ : zgL Γ < 2 ^ 31) (hk : k + 1 ≤ mc) (hks : ks + 6 ≤ ms) (hLI : zLI x a r t B h) (K : ∀ (h9 : zH) (n9 k9 ks9 B9 : Nat) (w6 w7 w8 : Option Value), k9 ≤ k + 1 → ks9 ≤ ks + 6 → B9 ≤ B + 300 → zLI x a r t B9 h9 → Z Γ l mW_law d mc ms FN 3260 [some (.ref (zgS Γ)), some (.ref x), some (.ref a), some (.ref r), some (.ref t), some (.int (nI i)), w6, w7, w8] [] h9 n9 k9 ks9) : Z Γ l mW_law d mc ms FN 2132 [some (.ref (zgS Γ)), some (.ref x), some (.ref a), some (.ref r), some (.ref t), some (.int (nI i)), v6, v7, v8] [] h n k ks := by
  obtain ⟨g, P, c, sv, er, fl, T, np, L, f0, f1, s8, s16, s17, s18, s19, s20, hX, m0, m1, hM, h3, h4, hc8, hLb, her, hfl⟩ := hLI
  have hI : IG B g := hX.2.2.1
  obtain ⟨⟨st, hst, hx, htr⟩, hXr⟩ := id hX
  refine zs_aload_n (pc := 2132) dW_law_2132 rfl ?_
  refine zs_aload_n (pc := 2133) dW_law_2133 rfl ?_
  refine zs_iload (pc := 2134) dW_law_2134 rfl ?_
  refine zs_iconst (pc := 2136) dW_law_2136 zi_1 ?_
  refine zn_iadd (pc := 2137) dW_law_2137 ?_
  refine zs_sld (pc := 2138) dW_law_2138 (vp_in_nI (by omega) (by omega)) ?_
  refine zs_aload_n (pc := 2139) dW_law_2139 rfl ?_
  refine zcX_3 (pc := 2140) (d2 := d - 1) (s_W_entriesWith hl (by omega) hX (by omega) _ (by omega) h3) dW_law_2140 kW_281 mdW_entriesWith msW_entriesWith (by decide) (Nat.le_of_ble_eq_true rfl) (by omega) (by omega) (by omega) (fun v h1 n1 hq => ?_) (fun E h1 n1 hq => absurd hq.1 (by intro q; cases q))
  obtain ⟨hv9, hn9, hf9, hX1, f2, h31, hv0⟩ := hq
  obtain rfl := Sum.inl.inj hv9
  have hM1 := MS.sm hM (h1 := h1) (fun q q1 q2 => hf9 q (by omega) (by omega))
  have m01 := (hf9 a (by omega) (by omega)).trans m0
  have m11 := (hf9 (a + 1) (by omega) (by omega)).trans m1
  have h41 := (hf9 t (by omega) (by omega)).trans h4
  rw [← z2_id m01 m11]
  obtain ⟨⟨A2, m2⟩, ⟨S, mS, mS2⟩, ⟨U, m4, mP⟩, m5, m6, m7, m8, ⟨C9, m9⟩⟩ := id hM1
  have hlt : (aEnt g (zgX Γ (nI (i + 1)).toNatClampNeg)).1 < 2 := by
      unfold aEnt
      (repeat' split) <;> exact Nat.le_of_ble_eq_true rfl
  refine zs_istore (pc := 2143) (ls2 := [_, _, _, _, _, _, _, _, _]) dW_law_2143 (Nat.le_of_ble_eq_true rfl) rfl ?_
  refine zs_aload_n (pc := 2145) dW_law_2145 rfl ?_
  refine zs_aload_n (pc := 2146) dW_law_2146 rfl ?_
  refine zs_iload (pc := 2147) dW_law_2147 rfl ?_
  refine zs_iconst (pc := 2149) dW_law_2149 zi_1 ?_
  refine zn_iadd (pc := 2150) dW_law_2150 ?_
  refine zs_sld (pc := 2151) dW_law_2151 (vp_in_nI (by omega) (by omega)) ?_
  refine zcV1_1 (pc := 2152) (d2 := d - 1) (s_M_entriesWith hl (by omega) hI _) dW_law_2152 kW_283 mdM_entriesWith miM_entriesWith mvM_entriesWith rfl (by first | exact z2_a | exact hx) rfl (Nat.le_of_ble_eq_true rfl) (by omega) (by omega) (by omega) ?_
  refine zs_istore (pc := 2155) (ls2 := [_, _, _, _, _, _, _, _, _]) dW_law_2155 (Nat.le_of_ble_eq_true rfl) rfl ?_
  refine zs_aload_n (pc := 2157) dW_law_2157 rfl ?_
  refine zcV1_0 (pc := 2158) (d2 := d - 1) (s_M_thrown hl) dW_law_2158 kW_183 mdM_thrown miM_thrown mvM_thrown rfl (by first | exact z2_a | exact hx) rfl (Nat.le_of_ble_eq_true rfl) (by omega) (by omega) (by omega) ?_
  refine zs_iload (pc := 2161) dW_law_2161 rfl ?_
  refine zs_icmp_eq (pc := 2163) 2168 dW_law_2163 rfl (fun _ => ?_) (fun h9 => absurd h9 (fun q => q rfl))
  refine zs_iload (pc := 2168) dW_law_2168 rfl ?_
  refine zs_if_ne (pc := 2170) 2185 dW_law_2170 rfl (fun hb9 => ?_) (fun hb9 => ?_)
  · refine zs_goto (pc := 2185) 3260 dW_law_2185 rfl ?_
    exact K _ _ _ _ _ _ _ _ (by omega) (by omega) (by omega) (zLI_mk ha hr ht hX1 (fun _ _ => rfl) hM1 h31 h41 hc8 hLb her hfl)
  · have e0 : (aEnt g (zgX Γ (nI (i + 1)).toNatClampNeg)).1 = 0 := Decidable.byContradiction fun q => nI_ne (by omega) (by decide) q hb9
    have z0 : (nI 0).toNatClampNeg = 0 := by decide
    have em : (aEnt g (zgX Γ (nI (i + 1)).toNatClampNeg)).2 = (aEnt g (zgX Γ (nI (i + 1)).toNatClampNeg)).2 := rfl
    have ec : lg_cmp (f2 (nI 0).toNatClampNeg) (aEnt g (zgX Γ (nI (i + 1)).toNatClampNeg)).2.toInt64 = 0 := by rw [z0, hv0 e0, em]; exact lg_same
    refine zs_aload_n (pc := 2173) dW_law_2173 rfl ?_
    refine zs_iconst (pc := 2174) dW_law_2174 zi_0 ?_
    refine zs_lald (pc := 2175) dW_law_2175 (by (rw [z2_n (by omega) (by omega)]; exact h31)) (vp_in_nI (by decide) (by decide)) ?_
    refine zs_iload (pc := 2176) dW_law_2176 rfl ?_
    refine zs_i2l (pc := 2178) dW_law_2178 ?_
    refine zs_lcmp (pc := 2179) dW_law_2179 ?_
    refine zs_if_eq (pc := 2180) 2185 dW_law_2180 rfl (fun _ => ?_) (fun h9 => absurd h9 (fun q => q ec))
    refine zs_goto (pc := 2185) 3260 dW_law_2185 rfl ?_
    exact K _ _ _ _ _ _ _ _ (by omega) (by omega) (by omega) (zLI_mk ha hr ht hX1 (fun _ _ => rfl) hM1 h31 h41 hc8 hLb her hfl)
theorem sL_codeAfter {Γ : zG} {l : Launch} (hl : l.stackTraces = false) {d mc ms : Nat} (hd : 12 ≤ d) {FN : List Frame → Array Value → State → State → Prop} {x a r t n k ks i B : Nat} {h : zH} {v6 v7 v8 : Option Value} (ha : a = x + 481) (hr : r = a + 10) (ht : t = a + 11) (hB : B + 640 < 2 ^ 20) (hi : i + 4 ≤ zgL Γ) (hZ : zgL Γ < 2 ^ 31) (hk : k + 1 ≤ mc) (hks : ks + 6 ≤ ms) (hLI : zLI x a r t B h) (K : ∀ (h9 : zH) (n9 k9 ks9 B9 : Nat) (w6 w7 w8 : Option Value), k9 ≤ k + 1 → ks9 ≤ ks + 6 → B9 ≤ B + 300 → zLI x a r t B9 h9 → Z Γ l mW_law d mc ms FN 3260 [some (.ref (zgS Γ)), some (.ref x), some (.ref a), some (.ref r), some (.ref t), some (.int (nI i)), w6, w7, w8] [] h9 n9 k9 ks9) : Z Γ l mW_law d mc ms FN 2188 [some (.ref (zgS Γ)), some (.ref x), some (.ref a), some (.ref r), some (.ref t), some (.int (nI i)), v6, v7, v8] [] h n k ks := by
  obtain ⟨g, P, c, sv, er, fl, T, np, L, f0, f1, s8, s16, s17, s18, s19, s20, hX, m0, m1, hM, h3, h4, hc8, hLb, her, hfl⟩ := hLI
  have hI : IG B g := hX.2.2.1
  obtain ⟨⟨st, hst, hx, htr⟩, hXr⟩ := id hX
  refine zs_aload_n (pc := 2188) dW_law_2188 rfl ?_
  refine zs_aload_n (pc := 2189) dW_law_2189 rfl ?_
  refine zs_iload (pc := 2190) dW_law_2190 rfl ?_
  refine zs_iconst (pc := 2192) dW_law_2192 zi_1 ?_
  refine zn_iadd (pc := 2193) dW_law_2193 ?_
  refine zs_sld (pc := 2194) dW_law_2194 (vp_in_nI (by omega) (by omega)) ?_
  refine zs_aload_n (pc := 2195) dW_law_2195 rfl ?_
  refine zcX_3 (pc := 2196) (d2 := d - 1) (s_W_codeAfter hl (by omega) hX (by omega) _ (by omega) h3) dW_law_2196 kW_284 mdW_codeAfter msW_codeAfter (by decide) (Nat.le_of_ble_eq_true rfl) (by omega) (by omega) (by omega) (fun v h1 n1 hq => ?_) (fun E h1 n1 hq => absurd hq.1 (by intro q; cases q))
  obtain ⟨hv9, hn9, hf9, hX1, f2, h31, hv0⟩ := hq
  obtain rfl := Sum.inl.inj hv9
  have hM1 := MS.sm hM (h1 := h1) (fun q q1 q2 => hf9 q (by omega) (by omega))
  have m01 := (hf9 a (by omega) (by omega)).trans m0
  have m11 := (hf9 (a + 1) (by omega) (by omega)).trans m1
  have h41 := (hf9 t (by omega) (by omega)).trans h4
  rw [← z2_id m01 m11]
  obtain ⟨⟨A2, m2⟩, ⟨S, mS, mS2⟩, ⟨U, m4, mP⟩, m5, m6, m7, m8, ⟨C9, m9⟩⟩ := id hM1
  have hlt : (aAft g (zgX Γ (nI (i + 1)).toNatClampNeg)).1 < 3 := by
      unfold aAft
      (repeat' split) <;> exact Nat.le_of_ble_eq_true rfl
  refine zs_istore (pc := 2199) (ls2 := [_, _, _, _, _, _, _, _, _]) dW_law_2199 (Nat.le_of_ble_eq_true rfl) rfl ?_
  refine zs_aload_n (pc := 2201) dW_law_2201 rfl ?_
  refine zs_aload_n (pc := 2202) dW_law_2202 rfl ?_
  refine zs_iload (pc := 2203) dW_law_2203 rfl ?_
  refine zs_iconst (pc := 2205) dW_law_2205 zi_1 ?_
  refine zn_iadd (pc := 2206) dW_law_2206 ?_
  refine zs_sld (pc := 2207) dW_law_2207 (vp_in_nI (by omega) (by omega)) ?_
  refine zcV1_1 (pc := 2208) (d2 := d - 1) (s_M_codeAfter hl (by omega) hI _) dW_law_2208 kW_286 mdM_codeAfter miM_codeAfter mvM_codeAfter rfl (by first | exact z2_a | exact hx) rfl (Nat.le_of_ble_eq_true rfl) (by omega) (by omega) (by omega) ?_
  refine zs_istore (pc := 2211) (ls2 := [_, _, _, _, _, _, _, _, _]) dW_law_2211 (Nat.le_of_ble_eq_true rfl) rfl ?_
  refine zs_aload_n (pc := 2213) dW_law_2213 rfl ?_
  refine zcV1_0 (pc := 2214) (d2 := d - 1) (s_M_thrown hl) dW_law_2214 kW_183 mdM_thrown miM_thrown mvM_thrown rfl (by first | exact z2_a | exact hx) rfl (Nat.le_of_ble_eq_true rfl) (by omega) (by omega) (by omega) ?_
  refine zs_iload (pc := 2217) dW_law_2217 rfl ?_
  refine zs_icmp_eq (pc := 2219) 2224 dW_law_2219 rfl (fun _ => ?_) (fun h9 => absurd h9 (fun q => q rfl))
  refine zs_iload (pc := 2224) dW_law_2224 rfl ?_
  refine zs_if_ne (pc := 2226) 2241 dW_law_2226 rfl (fun hb9 => ?_) (fun hb9 => ?_)
  · refine zs_goto (pc := 2241) 3260 dW_law_2241 rfl ?_
    exact K _ _ _ _ _ _ _ _ (by omega) (by omega) (by omega) (zLI_mk ha hr ht hX1 (fun _ _ => rfl) hM1 h31 h41 hc8 hLb her hfl)
  · have e0 : (aAft g (zgX Γ (nI (i + 1)).toNatClampNeg)).1 = 0 := Decidable.byContradiction fun q => nI_ne (by omega) (by decide) q hb9
    have z0 : (nI 0).toNatClampNeg = 0 := by decide
    have em : (aAft g (zgX Γ (nI (i + 1)).toNatClampNeg)).2 = (aAft g (zgX Γ (nI (i + 1)).toNatClampNeg)).2 := rfl
    have ec : lg_cmp (f2 (nI 0).toNatClampNeg) (aAft g (zgX Γ (nI (i + 1)).toNatClampNeg)).2.toInt64 = 0 := by rw [z0, hv0 e0, em]; exact lg_same
    refine zs_aload_n (pc := 2229) dW_law_2229 rfl ?_
    refine zs_iconst (pc := 2230) dW_law_2230 zi_0 ?_
    refine zs_lald (pc := 2231) dW_law_2231 (by (rw [z2_n (by omega) (by omega)]; exact h31)) (vp_in_nI (by decide) (by decide)) ?_
    refine zs_iload (pc := 2232) dW_law_2232 rfl ?_
    refine zs_i2l (pc := 2234) dW_law_2234 ?_
    refine zs_lcmp (pc := 2235) dW_law_2235 ?_
    refine zs_if_eq (pc := 2236) 2241 dW_law_2236 rfl (fun _ => ?_) (fun h9 => absurd h9 (fun q => q ec))
    refine zs_goto (pc := 2241) 3260 dW_law_2241 rfl ?_
    exact K _ _ _ _ _ _ _ _ (by omega) (by omega) (by omega) (zLI_mk ha hr ht hX1 (fun _ _ => rfl) hM1 h31 h41 hc8 hLb her hfl)
theorem sL_commonestCode {Γ : zG} {l : Launch} (hl : l.stackTraces = false) {d mc ms : Nat} (hd : 12 ≤ d) {FN : List Frame → Array Value → State → State → Prop} {x a r t n k ks i B : Nat} {h : zH} {v6 v7 v8 : Option Value} (ha : a = x + 481) (hr : r = a + 10) (ht : t = a + 11) (hB : B + 640 < 2 ^ 20) (hi : i + 4 ≤ zgL Γ) (hZ : zgL Γ < 2 ^ 31) (hk : k + 1 ≤ mc) (hks : ks + 6 ≤ ms) (hLI : zLI x a r t B h) (K : ∀ (h9 : zH) (n9 k9 ks9 B9 : Nat) (w6 w7 w8 : Option Value), k9 ≤ k + 1 → ks9 ≤ ks + 6 → B9 ≤ B + 300 → zLI x a r t B9 h9 → Z Γ l mW_law d mc ms FN 3260 [some (.ref (zgS Γ)), some (.ref x), some (.ref a), some (.ref r), some (.ref t), some (.int (nI i)), w6, w7, w8] [] h9 n9 k9 ks9) : Z Γ l mW_law d mc ms FN 2244 [some (.ref (zgS Γ)), some (.ref x), some (.ref a), some (.ref r), some (.ref t), some (.int (nI i)), v6, v7, v8] [] h n k ks := by
  obtain ⟨g, P, c, sv, er, fl, T, np, L, f0, f1, s8, s16, s17, s18, s19, s20, hX, m0, m1, hM, h3, h4, hc8, hLb, her, hfl⟩ := hLI
  have hI : IG B g := hX.2.2.1
  obtain ⟨⟨st, hst, hx, htr⟩, hXr⟩ := id hX
  refine zs_aload_n (pc := 2244) dW_law_2244 rfl ?_
  refine zs_aload_n (pc := 2245) dW_law_2245 rfl ?_
  refine zcX_2 (pc := 2246) (d2 := d - 1) (s_W_commonestCode hl (by omega) hX (by omega)  (by omega) h3) dW_law_2246 kW_287 mdW_commonestCode msW_commonestCode (by decide) (Nat.le_of_ble_eq_true rfl) (by omega) (by omega) (by omega) (fun v h1 n1 hq => ?_) (fun E h1 n1 hq => absurd hq.1 (by intro q; cases q))
  obtain ⟨hv9, hn9, hf9, hX1, f2, h31, hv0⟩ := hq
  obtain rfl := Sum.inl.inj hv9
  have hM1 := MS.sm hM (h1 := h1) (fun q q1 q2 => hf9 q (by omega) (by omega))
  have m01 := (hf9 a (by omega) (by omega)).trans m0
  have m11 := (hf9 (a + 1) (by omega) (by omega)).trans m1
  have h41 := (hf9 t (by omega) (by omega)).trans h4
  rw [← z2_id m01 m11]
  obtain ⟨⟨A2, m2⟩, ⟨S, mS, mS2⟩, ⟨U, m4, mP⟩, m5, m6, m7, m8, ⟨C9, m9⟩⟩ := id hM1
  have hlt : (aCom g).1 < 2 := by
      unfold aCom
      (repeat' split) <;> exact Nat.le_of_ble_eq_true rfl
  refine zs_istore (pc := 2249) (ls2 := [_, _, _, _, _, _, _, _, _]) dW_law_2249 (Nat.le_of_ble_eq_true rfl) rfl ?_
  refine zs_aload_n (pc := 2251) dW_law_2251 rfl ?_
  refine zcV1_0 (pc := 2252) (d2 := d - 1) (s_M_commonestCode hl (by omega) hI) dW_law_2252 kW_289 mdM_commonestCode miM_commonestCode mvM_commonestCode rfl (by first | exact z2_a | exact hx) rfl (Nat.le_of_ble_eq_true rfl) (by omega) (by omega) (by omega) ?_
  refine zs_istore (pc := 2255) (ls2 := [_, _, _, _, _, _, _, _, _]) dW_law_2255 (Nat.le_of_ble_eq_true rfl) rfl ?_
  refine zs_aload_n (pc := 2257) dW_law_2257 rfl ?_
  refine zcV1_0 (pc := 2258) (d2 := d - 1) (s_M_thrown hl) dW_law_2258 kW_183 mdM_thrown miM_thrown mvM_thrown rfl (by first | exact z2_a | exact hx) rfl (Nat.le_of_ble_eq_true rfl) (by omega) (by omega) (by omega) ?_
  refine zs_iload (pc := 2261) dW_law_2261 rfl ?_
  refine zs_icmp_eq (pc := 2263) 2268 dW_law_2263 rfl (fun _ => ?_) (fun h9 => absurd h9 (fun q => q rfl))
  refine zs_iload (pc := 2268) dW_law_2268 rfl ?_
  refine zs_if_ne (pc := 2270) 2285 dW_law_2270 rfl (fun hb9 => ?_) (fun hb9 => ?_)
  · refine zs_goto (pc := 2285) 3260 dW_law_2285 rfl ?_
    exact K _ _ _ _ _ _ _ _ (by omega) (by omega) (by omega) (zLI_mk ha hr ht hX1 (fun _ _ => rfl) hM1 h31 h41 hc8 hLb her hfl)
  · have e0 : (aCom g).1 = 0 := Decidable.byContradiction fun q => nI_ne (by omega) (by decide) q hb9
    have z0 : (nI 0).toNatClampNeg = 0 := by decide
    have em : (aCom g).2 = (aCom g).2 := rfl
    have ec : lg_cmp (f2 (nI 0).toNatClampNeg) (aCom g).2.toInt64 = 0 := by rw [z0, hv0 e0, em]; exact lg_same
    refine zs_aload_n (pc := 2273) dW_law_2273 rfl ?_
    refine zs_iconst (pc := 2274) dW_law_2274 zi_0 ?_
    refine zs_lald (pc := 2275) dW_law_2275 (by (rw [z2_n (by omega) (by omega)]; exact h31)) (vp_in_nI (by decide) (by decide)) ?_
    refine zs_iload (pc := 2276) dW_law_2276 rfl ?_
    refine zs_i2l (pc := 2278) dW_law_2278 ?_
    refine zs_lcmp (pc := 2279) dW_law_2279 ?_
    refine zs_if_eq (pc := 2280) 2285 dW_law_2280 rfl (fun _ => ?_) (fun h9 => absurd h9 (fun q => q ec))
    refine zs_goto (pc := 2285) 3260 dW_law_2285 rfl ?_
    exact K _ _ _ _ _ _ _ _ (by omega) (by omega) (by omega) (zLI_mk ha hr ht hX1 (fun _ _ => rfl) hM1 h31 h41 hc8 hLb her hfl)
theorem sL_sharedCodes {Γ : zG} {l : Launch} (hl : l.stackTraces = false) {d mc ms : Nat} (hd : 12 ≤ d) {FN : List Frame → Array Value → State → State → Prop} {x a r t n k ks i B : Nat} {h : zH} {v6 v7 v8 : Option Value} (ha : a = x + 481) (hr : r = a + 10) (ht : t = a + 11) (hB : B + 640 < 2 ^ 20) (hi : i + 4 ≤ zgL Γ) (hZ : zgL Γ < 2 ^ 31) (hk : k + 1 ≤ mc) (hks : ks + 6 ≤ ms) (hLI : zLI x a r t B h) (K : ∀ (h9 : zH) (n9 k9 ks9 B9 : Nat) (w6 w7 w8 : Option Value), k9 ≤ k + 1 → ks9 ≤ ks + 6 → B9 ≤ B + 300 → zLI x a r t B9 h9 → Z Γ l mW_law d mc ms FN 3260 [some (.ref (zgS Γ)), some (.ref x), some (.ref a), some (.ref r), some (.ref t), some (.int (nI i)), w6, w7, w8] [] h9 n9 k9 ks9) : Z Γ l mW_law d mc ms FN 2288 [some (.ref (zgS Γ)), some (.ref x), some (.ref a), some (.ref r), some (.ref t), some (.int (nI i)), v6, v7, v8] [] h n k ks := by
  obtain ⟨g, P, c, sv, er, fl, T, np, L, f0, f1, s8, s16, s17, s18, s19, s20, hX, m0, m1, hM, h3, h4, hc8, hLb, her, hfl⟩ := hLI
  have hI : IG B g := hX.2.2.1
  obtain ⟨⟨st, hst, hx, htr⟩, hXr⟩ := id hX
  refine zs_aload_n (pc := 2288) dW_law_2288 rfl ?_
  refine zs_aload_n (pc := 2289) dW_law_2289 rfl ?_
  refine zs_iload (pc := 2290) dW_law_2290 rfl ?_
  refine zs_iconst (pc := 2292) dW_law_2292 zi_1 ?_
  refine zn_iadd (pc := 2293) dW_law_2293 ?_
  refine zs_sld (pc := 2294) dW_law_2294 (vp_in_nI (by omega) (by omega)) ?_
  refine zs_aload_n (pc := 2295) dW_law_2295 rfl ?_
  refine zs_iload (pc := 2296) dW_law_2296 rfl ?_
  refine zs_iconst (pc := 2298) dW_law_2298 zi_2 ?_
  refine zn_iadd (pc := 2299) dW_law_2299 ?_
  refine zs_sld (pc := 2300) dW_law_2300 (vp_in_nI (by omega) (by omega)) ?_
  refine zs_aload_n (pc := 2301) dW_law_2301 rfl ?_
  refine zcX_4 (pc := 2302) (d2 := d - 1) (s_W_sharedCodes hl (by omega) hX (by omega) _ _ (by omega) h3) dW_law_2302 kW_290 mdW_sharedCodes msW_sharedCodes (by decide) (Nat.le_of_ble_eq_true rfl) (by omega) (by omega) (by omega) (fun v h1 n1 hq => ?_) (fun E h1 n1 hq => absurd hq.1 (by intro q; cases q))
  obtain ⟨hv9, hn9, hf9, hX1, f2, h31, hv0⟩ := hq
  obtain rfl := Sum.inl.inj hv9
  have hM1 := MS.sm hM (h1 := h1) (fun q q1 q2 => hf9 q (by omega) (by omega))
  have m01 := (hf9 a (by omega) (by omega)).trans m0
  have m11 := (hf9 (a + 1) (by omega) (by omega)).trans m1
  have h41 := (hf9 t (by omega) (by omega)).trans h4
  rw [← z2_id m01 m11]
  obtain ⟨⟨A2, m2⟩, ⟨S, mS, mS2⟩, ⟨U, m4, mP⟩, m5, m6, m7, m8, ⟨C9, m9⟩⟩ := id hM1
  have hlt : (aShare g (zgX Γ (nI (i + 1)).toNatClampNeg) (zgX Γ (nI (i + 2)).toNatClampNeg)).1 < 2 := by
      unfold aShare
      (repeat' split) <;> exact Nat.le_of_ble_eq_true rfl
  refine zs_istore (pc := 2305) (ls2 := [_, _, _, _, _, _, _, _, _]) dW_law_2305 (Nat.le_of_ble_eq_true rfl) rfl ?_
  refine zs_aload_n (pc := 2307) dW_law_2307 rfl ?_
  refine zs_aload_n (pc := 2308) dW_law_2308 rfl ?_
  refine zs_iload (pc := 2309) dW_law_2309 rfl ?_
  refine zs_iconst (pc := 2311) dW_law_2311 zi_1 ?_
  refine zn_iadd (pc := 2312) dW_law_2312 ?_
  refine zs_sld (pc := 2313) dW_law_2313 (vp_in_nI (by omega) (by omega)) ?_
  refine zs_aload_n (pc := 2314) dW_law_2314 rfl ?_
  refine zs_iload (pc := 2315) dW_law_2315 rfl ?_
  refine zs_iconst (pc := 2317) dW_law_2317 zi_2 ?_
  refine zn_iadd (pc := 2318) dW_law_2318 ?_
  refine zs_sld (pc := 2319) dW_law_2319 (vp_in_nI (by omega) (by omega)) ?_
  refine zcV1_2 (pc := 2320) (d2 := d - 1) (s_M_sharedCodes hl (by omega) hI _ _) dW_law_2320 kW_292 mdM_sharedCodes miM_sharedCodes mvM_sharedCodes rfl (by first | exact z2_a | exact hx) rfl (Nat.le_of_ble_eq_true rfl) (by omega) (by omega) (by omega) ?_
  refine zs_istore (pc := 2323) (ls2 := [_, _, _, _, _, _, _, _, _]) dW_law_2323 (Nat.le_of_ble_eq_true rfl) rfl ?_
  refine zs_aload_n (pc := 2325) dW_law_2325 rfl ?_
  refine zcV1_0 (pc := 2326) (d2 := d - 1) (s_M_thrown hl) dW_law_2326 kW_183 mdM_thrown miM_thrown mvM_thrown rfl (by first | exact z2_a | exact hx) rfl (Nat.le_of_ble_eq_true rfl) (by omega) (by omega) (by omega) ?_
  refine zs_iload (pc := 2329) dW_law_2329 rfl ?_
  refine zs_icmp_eq (pc := 2331) 2336 dW_law_2331 rfl (fun _ => ?_) (fun h9 => absurd h9 (fun q => q rfl))
  refine zs_iload (pc := 2336) dW_law_2336 rfl ?_
  refine zs_if_ne (pc := 2338) 2353 dW_law_2338 rfl (fun hb9 => ?_) (fun hb9 => ?_)
  · refine zs_goto (pc := 2353) 3260 dW_law_2353 rfl ?_
    exact K _ _ _ _ _ _ _ _ (by omega) (by omega) (by omega) (zLI_mk ha hr ht hX1 (fun _ _ => rfl) hM1 h31 h41 hc8 hLb her hfl)
  · have e0 : (aShare g (zgX Γ (nI (i + 1)).toNatClampNeg) (zgX Γ (nI (i + 2)).toNatClampNeg)).1 = 0 := Decidable.byContradiction fun q => nI_ne (by omega) (by decide) q hb9
    have z0 : (nI 0).toNatClampNeg = 0 := by decide
    have em : (aShare g (zgX Γ (nI (i + 1)).toNatClampNeg) (zgX Γ (nI (i + 2)).toNatClampNeg)).2 = (aShare g (zgX Γ (nI (i + 1)).toNatClampNeg) (zgX Γ (nI (i + 2)).toNatClampNeg)).2 := rfl
    have ec : lg_cmp (f2 (nI 0).toNatClampNeg) (aShare g (zgX Γ (nI (i + 1)).toNatClampNeg) (zgX Γ (nI (i + 2)).toNatClampNeg)).2.toInt64 = 0 := by rw [z0, hv0 e0, em]; exact lg_same
    refine zs_aload_n (pc := 2341) dW_law_2341 rfl ?_
    refine zs_iconst (pc := 2342) dW_law_2342 zi_0 ?_
    refine zs_lald (pc := 2343) dW_law_2343 (by (rw [z2_n (by omega) (by omega)]; exact h31)) (vp_in_nI (by decide) (by decide)) ?_
    refine zs_iload (pc := 2344) dW_law_2344 rfl ?_
    refine zs_i2l (pc := 2346) dW_law_2346 ?_
    refine zs_lcmp (pc := 2347) dW_law_2347 ?_
    refine zs_if_eq (pc := 2348) 2353 dW_law_2348 rfl (fun _ => ?_) (fun h9 => absurd h9 (fun q => q ec))
    refine zs_goto (pc := 2353) 3260 dW_law_2353 rfl ?_
    exact K _ _ _ _ _ _ _ _ (by omega) (by omega) (by omega) (zLI_mk ha hr ht hX1 (fun _ _ => rfl) hM1 h31 h41 hc8 hLb her hfl)
theorem sL_mostSimilar {Γ : zG} {l : Launch} (hl : l.stackTraces = false) {d mc ms : Nat} (hd : 12 ≤ d) {FN : List Frame → Array Value → State → State → Prop} {x a r t n k ks i B : Nat} {h : zH} {v6 v7 v8 : Option Value} (ha : a = x + 481) (hr : r = a + 10) (ht : t = a + 11) (hB : B + 640 < 2 ^ 20) (hi : i + 4 ≤ zgL Γ) (hZ : zgL Γ < 2 ^ 31) (hk : k + 1 ≤ mc) (hks : ks + 6 ≤ ms) (hLI : zLI x a r t B h) (K : ∀ (h9 : zH) (n9 k9 ks9 B9 : Nat) (w6 w7 w8 : Option Value), k9 ≤ k + 1 → ks9 ≤ ks + 6 → B9 ≤ B + 300 → zLI x a r t B9 h9 → Z Γ l mW_law d mc ms FN 3260 [some (.ref (zgS Γ)), some (.ref x), some (.ref a), some (.ref r), some (.ref t), some (.int (nI i)), w6, w7, w8] [] h9 n9 k9 ks9) : Z Γ l mW_law d mc ms FN 2356 [some (.ref (zgS Γ)), some (.ref x), some (.ref a), some (.ref r), some (.ref t), some (.int (nI i)), v6, v7, v8] [] h n k ks := by
  obtain ⟨g, P, c, sv, er, fl, T, np, L, f0, f1, s8, s16, s17, s18, s19, s20, hX, m0, m1, hM, h3, h4, hc8, hLb, her, hfl⟩ := hLI
  have hI : IG B g := hX.2.2.1
  obtain ⟨⟨st, hst, hx, htr⟩, hXr⟩ := id hX
  refine zs_aload_n (pc := 2356) dW_law_2356 rfl ?_
  refine zs_aload_n (pc := 2357) dW_law_2357 rfl ?_
  refine zs_iload (pc := 2358) dW_law_2358 rfl ?_
  refine zs_iconst (pc := 2360) dW_law_2360 zi_1 ?_
  refine zn_iadd (pc := 2361) dW_law_2361 ?_
  refine zs_sld (pc := 2362) dW_law_2362 (vp_in_nI (by omega) (by omega)) ?_
  refine zs_aload_n (pc := 2363) dW_law_2363 rfl ?_
  refine zcX_3 (pc := 2364) (d2 := d - 1) (s_W_mostSimilar hl (by omega) hX (by omega) _ (by omega) h3) dW_law_2364 kW_293 mdW_mostSimilar msW_mostSimilar (by decide) (Nat.le_of_ble_eq_true rfl) (by omega) (by omega) (by omega) (fun v h1 n1 hq => ?_) (fun E h1 n1 hq => absurd hq.1 (by intro q; cases q))
  obtain ⟨hv9, hn9, hf9, hX1, f2, h31, hv0⟩ := hq
  obtain rfl := Sum.inl.inj hv9
  have hM1 := MS.sm hM (h1 := h1) (fun q q1 q2 => hf9 q (by omega) (by omega))
  have m01 := (hf9 a (by omega) (by omega)).trans m0
  have m11 := (hf9 (a + 1) (by omega) (by omega)).trans m1
  have h41 := (hf9 t (by omega) (by omega)).trans h4
  rw [← z2_id m01 m11]
  obtain ⟨⟨A2, m2⟩, ⟨S, mS, mS2⟩, ⟨U, m4, mP⟩, m5, m6, m7, m8, ⟨C9, m9⟩⟩ := id hM1
  have hlt : (aSim g (zgX Γ (nI (i + 1)).toNatClampNeg)).1 < 2 := by
      unfold aSim
      (repeat' split) <;> exact Nat.le_of_ble_eq_true rfl
  refine zs_istore (pc := 2367) (ls2 := [_, _, _, _, _, _, _, _, _]) dW_law_2367 (Nat.le_of_ble_eq_true rfl) rfl ?_
  refine zs_aload_n (pc := 2369) dW_law_2369 rfl ?_
  refine zs_aload_n (pc := 2370) dW_law_2370 rfl ?_
  refine zs_iload (pc := 2371) dW_law_2371 rfl ?_
  refine zs_iconst (pc := 2373) dW_law_2373 zi_1 ?_
  refine zn_iadd (pc := 2374) dW_law_2374 ?_
  refine zs_sld (pc := 2375) dW_law_2375 (vp_in_nI (by omega) (by omega)) ?_
  refine zcV1_1 (pc := 2376) (d2 := d - 1) (s_M_mostSimilar hl (by omega) hI _) dW_law_2376 kW_295 mdM_mostSimilar miM_mostSimilar mvM_mostSimilar rfl (by first | exact z2_a | exact hx) rfl (Nat.le_of_ble_eq_true rfl) (by omega) (by omega) (by omega) ?_
  refine zs_istore (pc := 2379) (ls2 := [_, _, _, _, _, _, _, _, _]) dW_law_2379 (Nat.le_of_ble_eq_true rfl) rfl ?_
  refine zs_aload_n (pc := 2381) dW_law_2381 rfl ?_
  refine zcV1_0 (pc := 2382) (d2 := d - 1) (s_M_thrown hl) dW_law_2382 kW_183 mdM_thrown miM_thrown mvM_thrown rfl (by first | exact z2_a | exact hx) rfl (Nat.le_of_ble_eq_true rfl) (by omega) (by omega) (by omega) ?_
  refine zs_iload (pc := 2385) dW_law_2385 rfl ?_
  refine zs_icmp_eq (pc := 2387) 2392 dW_law_2387 rfl (fun _ => ?_) (fun h9 => absurd h9 (fun q => q rfl))
  refine zs_iload (pc := 2392) dW_law_2392 rfl ?_
  refine zs_if_ne (pc := 2394) 2409 dW_law_2394 rfl (fun hb9 => ?_) (fun hb9 => ?_)
  · refine zs_goto (pc := 2409) 3260 dW_law_2409 rfl ?_
    exact K _ _ _ _ _ _ _ _ (by omega) (by omega) (by omega) (zLI_mk ha hr ht hX1 (fun _ _ => rfl) hM1 h31 h41 hc8 hLb her hfl)
  · have e0 : (aSim g (zgX Γ (nI (i + 1)).toNatClampNeg)).1 = 0 := Decidable.byContradiction fun q => nI_ne (by omega) (by decide) q hb9
    have z0 : (nI 0).toNatClampNeg = 0 := by decide
    have em : (aSim g (zgX Γ (nI (i + 1)).toNatClampNeg)).2 = (aSim g (zgX Γ (nI (i + 1)).toNatClampNeg)).2 := rfl
    have ec : lg_cmp (f2 (nI 0).toNatClampNeg) (aSim g (zgX Γ (nI (i + 1)).toNatClampNeg)).2.toInt64 = 0 := by rw [z0, hv0 e0, em]; exact lg_same
    refine zs_aload_n (pc := 2397) dW_law_2397 rfl ?_
    refine zs_iconst (pc := 2398) dW_law_2398 zi_0 ?_
    refine zs_lald (pc := 2399) dW_law_2399 (by (rw [z2_n (by omega) (by omega)]; exact h31)) (vp_in_nI (by decide) (by decide)) ?_
    refine zs_iload (pc := 2400) dW_law_2400 rfl ?_
    refine zs_i2l (pc := 2402) dW_law_2402 ?_
    refine zs_lcmp (pc := 2403) dW_law_2403 ?_
    refine zs_if_eq (pc := 2404) 2409 dW_law_2404 rfl (fun _ => ?_) (fun h9 => absurd h9 (fun q => q ec))
    refine zs_goto (pc := 2409) 3260 dW_law_2409 rfl ?_
    exact K _ _ _ _ _ _ _ _ (by omega) (by omega) (by omega) (zLI_mk ha hr ht hX1 (fun _ _ => rfl) hM1 h31 h41 hc8 hLb her hfl)
theorem sL_daysUntilFaded {Γ : zG} {l : Launch} (hl : l.stackTraces = false) {d mc ms : Nat} (hd : 12 ≤ d) {FN : List Frame → Array Value → State → State → Prop} {x a r t n k ks i B : Nat} {h : zH} {v6 v7 v8 : Option Value} (ha : a = x + 481) (hr : r = a + 10) (ht : t = a + 11) (hB : B + 640 < 2 ^ 20) (hi : i + 4 ≤ zgL Γ) (hZ : zgL Γ < 2 ^ 31) (hk : k + 1 ≤ mc) (hks : ks + 6 ≤ ms) (hLI : zLI x a r t B h) (K : ∀ (h9 : zH) (n9 k9 ks9 B9 : Nat) (w6 w7 w8 : Option Value), k9 ≤ k + 1 → ks9 ≤ ks + 6 → B9 ≤ B + 300 → zLI x a r t B9 h9 → Z Γ l mW_law d mc ms FN 3260 [some (.ref (zgS Γ)), some (.ref x), some (.ref a), some (.ref r), some (.ref t), some (.int (nI i)), w6, w7, w8] [] h9 n9 k9 ks9) : Z Γ l mW_law d mc ms FN 2412 [some (.ref (zgS Γ)), some (.ref x), some (.ref a), some (.ref r), some (.ref t), some (.int (nI i)), v6, v7, v8] [] h n k ks := by
  obtain ⟨g, P, c, sv, er, fl, T, np, L, f0, f1, s8, s16, s17, s18, s19, s20, hX, m0, m1, hM, h3, h4, hc8, hLb, her, hfl⟩ := hLI
  have hI : IG B g := hX.2.2.1
  obtain ⟨⟨st, hst, hx, htr⟩, hXr⟩ := id hX
  refine zs_aload_n (pc := 2412) dW_law_2412 rfl ?_
  refine zs_aload_n (pc := 2413) dW_law_2413 rfl ?_
  refine zs_iload (pc := 2414) dW_law_2414 rfl ?_
  refine zs_iconst (pc := 2416) dW_law_2416 zi_1 ?_
  refine zn_iadd (pc := 2417) dW_law_2417 ?_
  refine zs_sld (pc := 2418) dW_law_2418 (vp_in_nI (by omega) (by omega)) ?_
  refine zs_aload_n (pc := 2419) dW_law_2419 rfl ?_
  refine zcX_3 (pc := 2420) (d2 := d - 1) (s_W_daysUntilFaded hl (by omega) hX (by omega) _ (by omega) h3) dW_law_2420 kW_296 mdW_daysUntilFaded msW_daysUntilFaded (by decide) (Nat.le_of_ble_eq_true rfl) (by omega) (by omega) (by omega) (fun v h1 n1 hq => ?_) (fun E h1 n1 hq => absurd hq.1 (by intro q; cases q))
  obtain ⟨hv9, hn9, hf9, hX1, f2, h31, hv0⟩ := hq
  obtain rfl := Sum.inl.inj hv9
  have hM1 := MS.sm hM (h1 := h1) (fun q q1 q2 => hf9 q (by omega) (by omega))
  have m01 := (hf9 a (by omega) (by omega)).trans m0
  have m11 := (hf9 (a + 1) (by omega) (by omega)).trans m1
  have h41 := (hf9 t (by omega) (by omega)).trans h4
  rw [← z2_id m01 m11]
  obtain ⟨⟨A2, m2⟩, ⟨S, mS, mS2⟩, ⟨U, m4, mP⟩, m5, m6, m7, m8, ⟨C9, m9⟩⟩ := id hM1
  have hlt : (aLeft g (zgX Γ (nI (i + 1)).toNatClampNeg)).1 < 2 := by
      unfold aLeft
      (repeat' split) <;> exact Nat.le_of_ble_eq_true rfl
  refine zs_istore (pc := 2423) (ls2 := [_, _, _, _, _, _, _, _, _]) dW_law_2423 (Nat.le_of_ble_eq_true rfl) rfl ?_
  refine zs_aload_n (pc := 2425) dW_law_2425 rfl ?_
  refine zs_aload_n (pc := 2426) dW_law_2426 rfl ?_
  refine zs_iload (pc := 2427) dW_law_2427 rfl ?_
  refine zs_iconst (pc := 2429) dW_law_2429 zi_1 ?_
  refine zn_iadd (pc := 2430) dW_law_2430 ?_
  refine zs_sld (pc := 2431) dW_law_2431 (vp_in_nI (by omega) (by omega)) ?_
  refine zcV1_1 (pc := 2432) (d2 := d - 1) (s_M_daysUntilFaded hl (by omega) hI (by omega) _) dW_law_2432 kW_298 mdM_daysUntilFaded miM_daysUntilFaded mvM_daysUntilFaded rfl (by first | exact z2_a | exact hx) rfl (Nat.le_of_ble_eq_true rfl) (by omega) (by omega) (by omega) ?_
  refine zs_istore (pc := 2435) (ls2 := [_, _, _, _, _, _, _, _, _]) dW_law_2435 (Nat.le_of_ble_eq_true rfl) rfl ?_
  refine zs_aload_n (pc := 2437) dW_law_2437 rfl ?_
  refine zcV1_0 (pc := 2438) (d2 := d - 1) (s_M_thrown hl) dW_law_2438 kW_183 mdM_thrown miM_thrown mvM_thrown rfl (by first | exact z2_a | exact hx) rfl (Nat.le_of_ble_eq_true rfl) (by omega) (by omega) (by omega) ?_
  refine zs_iload (pc := 2441) dW_law_2441 rfl ?_
  refine zs_icmp_eq (pc := 2443) 2448 dW_law_2443 rfl (fun _ => ?_) (fun h9 => absurd h9 (fun q => q rfl))
  refine zs_iload (pc := 2448) dW_law_2448 rfl ?_
  refine zs_if_ne (pc := 2450) 2465 dW_law_2450 rfl (fun hb9 => ?_) (fun hb9 => ?_)
  · refine zs_goto (pc := 2465) 3260 dW_law_2465 rfl ?_
    exact K _ _ _ _ _ _ _ _ (by omega) (by omega) (by omega) (zLI_mk ha hr ht hX1 (fun _ _ => rfl) hM1 h31 h41 hc8 hLb her hfl)
  · have e0 : (aLeft g (zgX Γ (nI (i + 1)).toNatClampNeg)).1 = 0 := Decidable.byContradiction fun q => nI_ne (by omega) (by decide) q hb9
    have z0 : (nI 0).toNatClampNeg = 0 := by decide
    have em : (aLeft g (zgX Γ (nI (i + 1)).toNatClampNeg)).2 = (aLeft g (zgX Γ (nI (i + 1)).toNatClampNeg)).2 := rfl
    have ec : lg_cmp (f2 (nI 0).toNatClampNeg) (aLeft g (zgX Γ (nI (i + 1)).toNatClampNeg)).2.toInt64 = 0 := by rw [z0, hv0 e0, em]; exact lg_same
    refine zs_aload_n (pc := 2453) dW_law_2453 rfl ?_
    refine zs_iconst (pc := 2454) dW_law_2454 zi_0 ?_
    refine zs_lald (pc := 2455) dW_law_2455 (by (rw [z2_n (by omega) (by omega)]; exact h31)) (vp_in_nI (by decide) (by decide)) ?_
    refine zs_iload (pc := 2456) dW_law_2456 rfl ?_
    refine zs_i2l (pc := 2458) dW_law_2458 ?_
    refine zs_lcmp (pc := 2459) dW_law_2459 ?_
    refine zs_if_eq (pc := 2460) 2465 dW_law_2460 rfl (fun _ => ?_) (fun h9 => absurd h9 (fun q => q ec))
    refine zs_goto (pc := 2465) 3260 dW_law_2465 rfl ?_
    exact K _ _ _ _ _ _ _ _ (by omega) (by omega) (by omega) (zLI_mk ha hr ht hX1 (fun _ _ => rfl) hM1 h31 h41 hc8 hLb her hfl)
theorem sL_daysUntilFadedByDays {Γ : zG} {l : Launch} (hl : l.stackTraces = false) {d mc ms : Nat} (hd : 12 ≤ d) {FN : List Frame → Array Value → State → State → Prop} {x a r t n k ks i B : Nat} {h : zH} {v6 v7 v8 : Option Value} (ha : a = x + 481) (hr : r = a + 10) (ht : t = a + 11) (hB : B + 640 < 2 ^ 20) (hi : i + 4 ≤ zgL Γ) (hZ : zgL Γ < 2 ^ 31) (hk : k + 1 ≤ mc) (hks : ks + 6 ≤ ms) (hLI : zLI x a r t B h) (K : ∀ (h9 : zH) (n9 k9 ks9 B9 : Nat) (w6 w7 w8 : Option Value), k9 ≤ k + 1 → ks9 ≤ ks + 6 → B9 ≤ B + 300 → zLI x a r t B9 h9 → Z Γ l mW_law d mc ms FN 3260 [some (.ref (zgS Γ)), some (.ref x), some (.ref a), some (.ref r), some (.ref t), some (.int (nI i)), w6, w7, w8] [] h9 n9 k9 ks9) : Z Γ l mW_law d mc ms FN 2468 [some (.ref (zgS Γ)), some (.ref x), some (.ref a), some (.ref r), some (.ref t), some (.int (nI i)), v6, v7, v8] [] h n k ks := by
  obtain ⟨g, P, c, sv, er, fl, T, np, L, f0, f1, s8, s16, s17, s18, s19, s20, hX, m0, m1, hM, h3, h4, hc8, hLb, her, hfl⟩ := hLI
  have hI : IG B g := hX.2.2.1
  obtain ⟨⟨st, hst, hx, htr⟩, hXr⟩ := id hX
  refine zs_aload_n (pc := 2468) dW_law_2468 rfl ?_
  refine zs_aload_n (pc := 2469) dW_law_2469 rfl ?_
  refine zs_iload (pc := 2470) dW_law_2470 rfl ?_
  refine zs_iconst (pc := 2472) dW_law_2472 zi_1 ?_
  refine zn_iadd (pc := 2473) dW_law_2473 ?_
  refine zs_sld (pc := 2474) dW_law_2474 (vp_in_nI (by omega) (by omega)) ?_
  refine zs_aload_n (pc := 2475) dW_law_2475 rfl ?_
  refine zcX_3 (pc := 2476) (d2 := d - 1) (s_W_daysUntilFadedByDays hl (by omega) hX (by omega) _ (by omega) h3) dW_law_2476 kW_299 mdW_daysUntilFadedByDays msW_daysUntilFadedByDays (by decide) (Nat.le_of_ble_eq_true rfl) (by omega) (by omega) (by omega) (fun v h1 n1 hq => ?_) (fun E h1 n1 hq => absurd hq.1 (by intro q; cases q))
  obtain ⟨hv9, hn9, hf9, hX1, f2, h31, hv0⟩ := hq
  obtain rfl := Sum.inl.inj hv9
  have hM1 := MS.sm hM (h1 := h1) (fun q q1 q2 => hf9 q (by omega) (by omega))
  have m01 := (hf9 a (by omega) (by omega)).trans m0
  have m11 := (hf9 (a + 1) (by omega) (by omega)).trans m1
  have h41 := (hf9 t (by omega) (by omega)).trans h4
  rw [← z2_id m01 m11]
  obtain ⟨⟨A2, m2⟩, ⟨S, mS, mS2⟩, ⟨U, m4, mP⟩, m5, m6, m7, m8, ⟨C9, m9⟩⟩ := id hM1
  have hlt : (aLeft g (zgX Γ (nI (i + 1)).toNatClampNeg)).1 < 2 := by
      unfold aLeft
      (repeat' split) <;> exact Nat.le_of_ble_eq_true rfl
  refine zs_istore (pc := 2479) (ls2 := [_, _, _, _, _, _, _, _, _]) dW_law_2479 (Nat.le_of_ble_eq_true rfl) rfl ?_
  refine zs_aload_n (pc := 2481) dW_law_2481 rfl ?_
  refine zs_aload_n (pc := 2482) dW_law_2482 rfl ?_
  refine zs_iload (pc := 2483) dW_law_2483 rfl ?_
  refine zs_iconst (pc := 2485) dW_law_2485 zi_1 ?_
  refine zn_iadd (pc := 2486) dW_law_2486 ?_
  refine zs_sld (pc := 2487) dW_law_2487 (vp_in_nI (by omega) (by omega)) ?_
  refine zcV1_1 (pc := 2488) (d2 := d - 1) (s_M_daysUntilFadedByDays hl (by omega) hI (by omega) _) dW_law_2488 kW_301 mdM_daysUntilFadedByDays miM_daysUntilFadedByDays mvM_daysUntilFadedByDays rfl (by first | exact z2_a | exact hx) rfl (Nat.le_of_ble_eq_true rfl) (by omega) (by omega) (by omega) ?_
  refine zs_istore (pc := 2491) (ls2 := [_, _, _, _, _, _, _, _, _]) dW_law_2491 (Nat.le_of_ble_eq_true rfl) rfl ?_
  refine zs_aload_n (pc := 2493) dW_law_2493 rfl ?_
  refine zcV1_0 (pc := 2494) (d2 := d - 1) (s_M_thrown hl) dW_law_2494 kW_183 mdM_thrown miM_thrown mvM_thrown rfl (by first | exact z2_a | exact hx) rfl (Nat.le_of_ble_eq_true rfl) (by omega) (by omega) (by omega) ?_
  refine zs_iload (pc := 2497) dW_law_2497 rfl ?_
  refine zs_icmp_eq (pc := 2499) 2504 dW_law_2499 rfl (fun _ => ?_) (fun h9 => absurd h9 (fun q => q rfl))
  refine zs_iload (pc := 2504) dW_law_2504 rfl ?_
  refine zs_if_ne (pc := 2506) 2521 dW_law_2506 rfl (fun hb9 => ?_) (fun hb9 => ?_)
  · refine zs_goto (pc := 2521) 3260 dW_law_2521 rfl ?_
    exact K _ _ _ _ _ _ _ _ (by omega) (by omega) (by omega) (zLI_mk ha hr ht hX1 (fun _ _ => rfl) hM1 h31 h41 hc8 hLb her hfl)
  · have e0 : (aLeft g (zgX Γ (nI (i + 1)).toNatClampNeg)).1 = 0 := Decidable.byContradiction fun q => nI_ne (by omega) (by decide) q hb9
    have z0 : (nI 0).toNatClampNeg = 0 := by decide
    have em : (aLeft g (zgX Γ (nI (i + 1)).toNatClampNeg)).2 = (aLeft g (zgX Γ (nI (i + 1)).toNatClampNeg)).2 := rfl
    have ec : lg_cmp (f2 (nI 0).toNatClampNeg) (aLeft g (zgX Γ (nI (i + 1)).toNatClampNeg)).2.toInt64 = 0 := by rw [z0, hv0 e0, em]; exact lg_same
    refine zs_aload_n (pc := 2509) dW_law_2509 rfl ?_
    refine zs_iconst (pc := 2510) dW_law_2510 zi_0 ?_
    refine zs_lald (pc := 2511) dW_law_2511 (by (rw [z2_n (by omega) (by omega)]; exact h31)) (vp_in_nI (by decide) (by decide)) ?_
    refine zs_iload (pc := 2512) dW_law_2512 rfl ?_
    refine zs_i2l (pc := 2514) dW_law_2514 ?_
    refine zs_lcmp (pc := 2515) dW_law_2515 ?_
    refine zs_if_eq (pc := 2516) 2521 dW_law_2516 rfl (fun _ => ?_) (fun h9 => absurd h9 (fun q => q ec))
    refine zs_goto (pc := 2521) 3260 dW_law_2521 rfl ?_
    exact K _ _ _ _ _ _ _ _ (by omega) (by omega) (by omega) (zLI_mk ha hr ht hX1 (fun _ _ => rfl) hM1 h31 h41 hc8 hLb her hfl)
theorem sL_fadingWithin {Γ : zG} {l : Launch} (hl : l.stackTraces = false) {d mc ms : Nat} (hd : 12 ≤ d) {FN : List Frame → Array Value → State → State → Prop} {x a r t n k ks i B : Nat} {h : zH} {v6 v7 v8 : Option Value} (ha : a = x + 481) (hr : r = a + 10) (ht : t = a + 11) (hB : B + 640 < 2 ^ 20) (hi : i + 4 ≤ zgL Γ) (hZ : zgL Γ < 2 ^ 31) (hk : k + 1 ≤ mc) (hks : ks + 6 ≤ ms) (hLI : zLI x a r t B h) (K : ∀ (h9 : zH) (n9 k9 ks9 B9 : Nat) (w6 w7 w8 : Option Value), k9 ≤ k + 1 → ks9 ≤ ks + 6 → B9 ≤ B + 300 → zLI x a r t B9 h9 → Z Γ l mW_law d mc ms FN 3260 [some (.ref (zgS Γ)), some (.ref x), some (.ref a), some (.ref r), some (.ref t), some (.int (nI i)), w6, w7, w8] [] h9 n9 k9 ks9) : Z Γ l mW_law d mc ms FN 2524 [some (.ref (zgS Γ)), some (.ref x), some (.ref a), some (.ref r), some (.ref t), some (.int (nI i)), v6, v7, v8] [] h n k ks := by
  obtain ⟨g, P, c, sv, er, fl, T, np, L, f0, f1, s8, s16, s17, s18, s19, s20, hX, m0, m1, hM, h3, h4, hc8, hLb, her, hfl⟩ := hLI
  have hI : IG B g := hX.2.2.1
  obtain ⟨⟨st, hst, hx, htr⟩, hXr⟩ := id hX
  refine zs_aload_n (pc := 2524) dW_law_2524 rfl ?_
  refine zs_aload_n (pc := 2525) dW_law_2525 rfl ?_
  refine zs_iload (pc := 2526) dW_law_2526 rfl ?_
  refine zs_iconst (pc := 2528) dW_law_2528 zi_1 ?_
  refine zn_iadd (pc := 2529) dW_law_2529 ?_
  refine zs_sld (pc := 2530) dW_law_2530 (vp_in_nI (by omega) (by omega)) ?_
  refine zs_aload_n (pc := 2531) dW_law_2531 rfl ?_
  refine zcX_3 (pc := 2532) (d2 := d - 1) (s_W_fadingWithin hl (by omega) hX (by omega) _ (by omega) h3) dW_law_2532 kW_302 mdW_fadingWithin msW_fadingWithin (by decide) (Nat.le_of_ble_eq_true rfl) (by omega) (by omega) (by omega) (fun v h1 n1 hq => ?_) (fun E h1 n1 hq => absurd hq.1 (by intro q; cases q))
  obtain ⟨hv9, hn9, hf9, hX1, f2, h31, hv0⟩ := hq
  obtain rfl := Sum.inl.inj hv9
  have hM1 := MS.sm hM (h1 := h1) (fun q q1 q2 => hf9 q (by omega) (by omega))
  have m01 := (hf9 a (by omega) (by omega)).trans m0
  have m11 := (hf9 (a + 1) (by omega) (by omega)).trans m1
  have h41 := (hf9 t (by omega) (by omega)).trans h4
  rw [← z2_id m01 m11]
  obtain ⟨⟨A2, m2⟩, ⟨S, mS, mS2⟩, ⟨U, m4, mP⟩, m5, m6, m7, m8, ⟨C9, m9⟩⟩ := id hM1
  have hlt : (aFad g (zgX Γ (nI (i + 1)).toNatClampNeg)).1 < 2 := by
      unfold aFad
      (repeat' split) <;> exact Nat.le_of_ble_eq_true rfl
  refine zs_istore (pc := 2535) (ls2 := [_, _, _, _, _, _, _, _, _]) dW_law_2535 (Nat.le_of_ble_eq_true rfl) rfl ?_
  refine zs_aload_n (pc := 2537) dW_law_2537 rfl ?_
  refine zs_aload_n (pc := 2538) dW_law_2538 rfl ?_
  refine zs_iload (pc := 2539) dW_law_2539 rfl ?_
  refine zs_iconst (pc := 2541) dW_law_2541 zi_1 ?_
  refine zn_iadd (pc := 2542) dW_law_2542 ?_
  refine zs_sld (pc := 2543) dW_law_2543 (vp_in_nI (by omega) (by omega)) ?_
  refine zcV1_1 (pc := 2544) (d2 := d - 1) (s_M_fadingWithin hl (by omega) hI (by omega) _) dW_law_2544 kW_304 mdM_fadingWithin miM_fadingWithin mvM_fadingWithin rfl (by first | exact z2_a | exact hx) rfl (Nat.le_of_ble_eq_true rfl) (by omega) (by omega) (by omega) ?_
  refine zs_istore (pc := 2547) (ls2 := [_, _, _, _, _, _, _, _, _]) dW_law_2547 (Nat.le_of_ble_eq_true rfl) rfl ?_
  refine zs_aload_n (pc := 2549) dW_law_2549 rfl ?_
  refine zcV1_0 (pc := 2550) (d2 := d - 1) (s_M_thrown hl) dW_law_2550 kW_183 mdM_thrown miM_thrown mvM_thrown rfl (by first | exact z2_a | exact hx) rfl (Nat.le_of_ble_eq_true rfl) (by omega) (by omega) (by omega) ?_
  refine zs_iload (pc := 2553) dW_law_2553 rfl ?_
  refine zs_icmp_eq (pc := 2555) 2560 dW_law_2555 rfl (fun _ => ?_) (fun h9 => absurd h9 (fun q => q rfl))
  refine zs_iload (pc := 2560) dW_law_2560 rfl ?_
  refine zs_if_ne (pc := 2562) 2577 dW_law_2562 rfl (fun hb9 => ?_) (fun hb9 => ?_)
  · refine zs_goto (pc := 2577) 3260 dW_law_2577 rfl ?_
    exact K _ _ _ _ _ _ _ _ (by omega) (by omega) (by omega) (zLI_mk ha hr ht hX1 (fun _ _ => rfl) hM1 h31 h41 hc8 hLb her hfl)
  · have e0 : (aFad g (zgX Γ (nI (i + 1)).toNatClampNeg)).1 = 0 := Decidable.byContradiction fun q => nI_ne (by omega) (by decide) q hb9
    have z0 : (nI 0).toNatClampNeg = 0 := by decide
    have em : (aFad g (zgX Γ (nI (i + 1)).toNatClampNeg)).2 = (aFad g (zgX Γ (nI (i + 1)).toNatClampNeg)).2 := rfl
    have ec : lg_cmp (f2 (nI 0).toNatClampNeg) (aFad g (zgX Γ (nI (i + 1)).toNatClampNeg)).2.toInt64 = 0 := by rw [z0, hv0 e0, em]; exact lg_same
    refine zs_aload_n (pc := 2565) dW_law_2565 rfl ?_
    refine zs_iconst (pc := 2566) dW_law_2566 zi_0 ?_
    refine zs_lald (pc := 2567) dW_law_2567 (by (rw [z2_n (by omega) (by omega)]; exact h31)) (vp_in_nI (by decide) (by decide)) ?_
    refine zs_iload (pc := 2568) dW_law_2568 rfl ?_
    refine zs_i2l (pc := 2570) dW_law_2570 ?_
    refine zs_lcmp (pc := 2571) dW_law_2571 ?_
    refine zs_if_eq (pc := 2572) 2577 dW_law_2572 rfl (fun _ => ?_) (fun h9 => absurd h9 (fun q => q ec))
    refine zs_goto (pc := 2577) 3260 dW_law_2577 rfl ?_
    exact K _ _ _ _ _ _ _ _ (by omega) (by omega) (by omega) (zLI_mk ha hr ht hX1 (fun _ _ => rfl) hM1 h31 h41 hc8 hLb her hfl)
theorem sL_addedTotal {Γ : zG} {l : Launch} (hl : l.stackTraces = false) {d mc ms : Nat} (hd : 12 ≤ d) {FN : List Frame → Array Value → State → State → Prop} {x a r t n k ks i B : Nat} {h : zH} {v6 v7 v8 : Option Value} (ha : a = x + 481) (hr : r = a + 10) (ht : t = a + 11) (hB : B + 640 < 2 ^ 20) (hi : i + 4 ≤ zgL Γ) (hZ : zgL Γ < 2 ^ 31) (hk : k + 1 ≤ mc) (hks : ks + 6 ≤ ms) (hLI : zLI x a r t B h) (K : ∀ (h9 : zH) (n9 k9 ks9 B9 : Nat) (w6 w7 w8 : Option Value), k9 ≤ k + 1 → ks9 ≤ ks + 6 → B9 ≤ B + 300 → zLI x a r t B9 h9 → Z Γ l mW_law d mc ms FN 3260 [some (.ref (zgS Γ)), some (.ref x), some (.ref a), some (.ref r), some (.ref t), some (.int (nI i)), w6, w7, w8] [] h9 n9 k9 ks9) : Z Γ l mW_law d mc ms FN 2580 [some (.ref (zgS Γ)), some (.ref x), some (.ref a), some (.ref r), some (.ref t), some (.int (nI i)), v6, v7, v8] [] h n k ks := by
  obtain ⟨g, P, c, sv, er, fl, T, np, L, f0, f1, s8, s16, s17, s18, s19, s20, hX, m0, m1, hM, h3, h4, hc8, hLb, her, hfl⟩ := hLI
  have hI : IG B g := hX.2.2.1
  obtain ⟨⟨st, hst, hx, htr⟩, hXr⟩ := id hX
  refine zs_aload_n (pc := 2580) dW_law_2580 rfl ?_
  refine zcVQ_0 (pc := 2581) (d2 := d - 1) (s_X_addedTotal hl hX) dW_law_2581 kW_305 mdX_addedTotal miX_addedTotal mvX_addedTotal rfl (by first | exact z2_a | exact hx) rfl (Nat.le_of_ble_eq_true rfl) (by omega) (by omega) (by omega) (fun v h1 n1 hq => ?_) (fun E h1 n1 hq => ?_)
  rotate_left
  · exact absurd rfl hq.1.r.1
  obtain ⟨hq1, hf9, hX1⟩ := hq
  obtain ⟨-, rfl, rfl⟩ := hq1.l
  have hM1 := MS.sm hM (h1 := h1) (fun q q1 q2 => hf9 q (by omega))
  have m01 := (hf9 a (by omega)).trans m0
  have m11 := (hf9 (a + 1) (by omega)).trans m1
  have h41 := (hf9 t (by omega)).trans h4
  rw [← z2_id m01 m11]
  obtain ⟨⟨A2, m2⟩, ⟨S, mS, mS2⟩, ⟨U, m4, mP⟩, m5, m6, m7, m8, ⟨C9, m9⟩⟩ := id hM1
  have h31 := (hf9 r (by omega)).trans h3
  refine zs_aload_n (pc := 2584) dW_law_2584 rfl ?_
  refine zcV1_0 (pc := 2585) (d2 := d - 1) (s_M_addedTotal hl (by omega)) dW_law_2585 kW_308 mdM_addedTotal miM_addedTotal mvM_addedTotal rfl (by first | exact z2_a | exact hx) rfl (Nat.le_of_ble_eq_true rfl) (by omega) (by omega) (by omega) ?_
  refine zs_icmp_eq (pc := 2588) 3260 dW_law_2588 rfl (fun _ => ?_) (fun h9 => absurd h9 (fun q => q rfl))
  exact K _ _ _ _ _ _ _ _ (by omega) (by omega) (by omega) (zLI_mk ha hr ht hX1 (fun _ _ => rfl) hM1 h31 h41 hc8 hLb her hfl)

