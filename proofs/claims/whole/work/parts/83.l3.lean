/-! the law: the steps, 1 -/
theorem sL_entryCount {Γ : zG} {l : Launch} (hl : l.stackTraces = false) {d mc ms : Nat} (hd : 12 ≤ d) {FN : List Frame → Array Value → State → State → Prop} {x a r t n k ks i B : Nat} {h : zH} {v6 v7 v8 : Option Value} (ha : a = x + 481) (hr : r = a + 10) (ht : t = a + 11) (hB : B + 640 < 2 ^ 20) (hi : i + 4 ≤ zgL Γ) (hZ : zgL Γ < 2 ^ 31) (hk : k + 1 ≤ mc) (hks : ks + 6 ≤ ms) (hLI : zLI x a r t B h) (K : ∀ (h9 : zH) (n9 k9 ks9 B9 : Nat) (w6 w7 w8 : Option Value), k9 ≤ k + 1 → ks9 ≤ ks + 6 → B9 ≤ B + 300 → zLI x a r t B9 h9 → Z Γ l mW_law d mc ms FN 3260 [some (.ref (zgS Γ)), some (.ref x), some (.ref a), some (.ref r), some (.ref t), some (.int (nI i)), w6, w7, w8] [] h9 n9 k9 ks9) : Z Γ l mW_law d mc ms FN 884 [some (.ref (zgS Γ)), some (.ref x), some (.ref a), some (.ref r), some (.ref t), some (.int (nI i)), v6, v7, v8] [] h n k ks := by
  obtain ⟨g, P, c, sv, er, fl, T, np, L, f0, f1, s8, s16, s17, s18, s19, s20, hX, m0, m1, hM, h3, h4, hc8, hLb, her, hfl⟩ := hLI
  have hI : IG B g := hX.2.2.1
  obtain ⟨⟨st, hst, hx, htr⟩, hXr⟩ := id hX
  refine zs_aload_n (pc := 884) dW_law_884 rfl ?_
  refine zcVQ_0 (pc := 885) (d2 := d - 1) (s_X_entryCount hl hX) dW_law_885 kW_215 mdX_entryCount miX_entryCount mvX_entryCount rfl (by first | exact z2_a | exact hx) rfl (Nat.le_of_ble_eq_true rfl) (by omega) (by omega) (by omega) (fun v h1 n1 hq => ?_) (fun E h1 n1 hq => ?_)
  rotate_left
  · exact absurd rfl hq.1.r.1
  obtain ⟨hq1, hf9, hX1⟩ := hq
  obtain ⟨-, rfl, rfl⟩ := hq1.l
  have hM1 := MS.sm hM (h1 := h1) (fun q q1 q2 => hf9 q (by omega))
  have m01 := (hf9 a (by omega)).trans m0
  have m11 := (hf9 (a + 1) (by omega)).trans m1
  have h41 := (hf9 t (by omega)).trans h4
  rw [← z2_id m01 m11]
  obtain ⟨⟨A2, m2⟩, ⟨S, mS, mS2⟩, ⟨U, m4, mP⟩, m5, m6, m7, m8, ⟨C9, m9⟩⟩ := id hM1
  have h31 := (hf9 r (by omega)).trans h3
  refine zs_aload_n (pc := 888) dW_law_888 rfl ?_
  refine zcV1_0 (pc := 889) (d2 := d - 1) (s_M_entryCount hl (by omega)) dW_law_889 kW_218 mdM_entryCount miM_entryCount mvM_entryCount rfl (by first | exact z2_a | exact hx) rfl (Nat.le_of_ble_eq_true rfl) (by omega) (by omega) (by omega) ?_
  refine zs_icmp_eq (pc := 892) 3260 dW_law_892 rfl (fun _ => ?_) (fun h9 => absurd h9 (fun q => q rfl))
  exact K _ _ _ _ _ _ _ _ (by omega) (by omega) (by omega) (zLI_mk ha hr ht hX1 (fun _ _ => rfl) hM1 h31 h41 hc8 hLb her hfl)
theorem sL_idAt {Γ : zG} {l : Launch} (hl : l.stackTraces = false) {d mc ms : Nat} (hd : 12 ≤ d) {FN : List Frame → Array Value → State → State → Prop} {x a r t n k ks i B : Nat} {h : zH} {v6 v7 v8 : Option Value} (ha : a = x + 481) (hr : r = a + 10) (ht : t = a + 11) (hB : B + 640 < 2 ^ 20) (hi : i + 4 ≤ zgL Γ) (hZ : zgL Γ < 2 ^ 31) (hk : k + 1 ≤ mc) (hks : ks + 6 ≤ ms) (hLI : zLI x a r t B h) (K : ∀ (h9 : zH) (n9 k9 ks9 B9 : Nat) (w6 w7 w8 : Option Value), k9 ≤ k + 1 → ks9 ≤ ks + 6 → B9 ≤ B + 300 → zLI x a r t B9 h9 → Z Γ l mW_law d mc ms FN 3260 [some (.ref (zgS Γ)), some (.ref x), some (.ref a), some (.ref r), some (.ref t), some (.int (nI i)), w6, w7, w8] [] h9 n9 k9 ks9) : Z Γ l mW_law d mc ms FN 897 [some (.ref (zgS Γ)), some (.ref x), some (.ref a), some (.ref r), some (.ref t), some (.int (nI i)), v6, v7, v8] [] h n k ks := by
  obtain ⟨g, P, c, sv, er, fl, T, np, L, f0, f1, s8, s16, s17, s18, s19, s20, hX, m0, m1, hM, h3, h4, hc8, hLb, her, hfl⟩ := hLI
  have hI : IG B g := hX.2.2.1
  obtain ⟨⟨st, hst, hx, htr⟩, hXr⟩ := id hX
  refine zs_aload_n (pc := 897) dW_law_897 rfl ?_
  refine zs_aload_n (pc := 898) dW_law_898 rfl ?_
  refine zs_iload (pc := 899) dW_law_899 rfl ?_
  refine zs_iconst (pc := 901) dW_law_901 zi_1 ?_
  refine zn_iadd (pc := 902) dW_law_902 ?_
  refine zs_sld (pc := 903) dW_law_903 (vp_in_nI (by omega) (by omega)) ?_
  refine zs_aload_n (pc := 904) dW_law_904 rfl ?_
  refine zcX_3 (pc := 905) (d2 := d - 1) (s_W_idAt hl (by omega) hX (by omega) _ (by omega) h3) dW_law_905 kW_219 mdW_idAt msW_idAt (by decide) (Nat.le_of_ble_eq_true rfl) (by omega) (by omega) (by omega) (fun v h1 n1 hq => ?_) (fun E h1 n1 hq => absurd hq.1 (by intro q; cases q))
  obtain ⟨hv9, hn9, hf9, hX1, f2, h31, hv0⟩ := hq
  obtain rfl := Sum.inl.inj hv9
  have hM1 := MS.sm hM (h1 := h1) (fun q q1 q2 => hf9 q (by omega) (by omega))
  have m01 := (hf9 a (by omega) (by omega)).trans m0
  have m11 := (hf9 (a + 1) (by omega) (by omega)).trans m1
  have h41 := (hf9 t (by omega) (by omega)).trans h4
  rw [← z2_id m01 m11]
  obtain ⟨⟨A2, m2⟩, ⟨S, mS, mS2⟩, ⟨U, m4, mP⟩, m5, m6, m7, m8, ⟨C9, m9⟩⟩ := id hM1
  have hlt : (aIdAt g (zgX Γ (nI (i + 1)).toNatClampNeg)).1 < 2 := by
      unfold aIdAt
      (repeat' split) <;> exact Nat.le_of_ble_eq_true rfl
  refine zs_istore (pc := 908) (ls2 := [_, _, _, _, _, _, _, _, _]) dW_law_908 (Nat.le_of_ble_eq_true rfl) rfl ?_
  refine zs_aload_n (pc := 910) dW_law_910 rfl ?_
  refine zs_aload_n (pc := 911) dW_law_911 rfl ?_
  refine zs_iload (pc := 912) dW_law_912 rfl ?_
  refine zs_iconst (pc := 914) dW_law_914 zi_1 ?_
  refine zn_iadd (pc := 915) dW_law_915 ?_
  refine zs_sld (pc := 916) dW_law_916 (vp_in_nI (by omega) (by omega)) ?_
  refine zcV1_1 (pc := 917) (d2 := d - 1) (s_M_idAt hl (by omega) hI _) dW_law_917 kW_221 mdM_idAt miM_idAt mvM_idAt rfl (by first | exact z2_a | exact hx) rfl (Nat.le_of_ble_eq_true rfl) (by omega) (by omega) (by omega) ?_
  refine zs_istore (pc := 920) (ls2 := [_, _, _, _, _, _, _, _, _]) dW_law_920 (Nat.le_of_ble_eq_true rfl) rfl ?_
  refine zs_aload_n (pc := 922) dW_law_922 rfl ?_
  refine zcV1_0 (pc := 923) (d2 := d - 1) (s_M_thrown hl) dW_law_923 kW_183 mdM_thrown miM_thrown mvM_thrown rfl (by first | exact z2_a | exact hx) rfl (Nat.le_of_ble_eq_true rfl) (by omega) (by omega) (by omega) ?_
  refine zs_iload (pc := 926) dW_law_926 rfl ?_
  refine zs_icmp_eq (pc := 928) 933 dW_law_928 rfl (fun _ => ?_) (fun h9 => absurd h9 (fun q => q rfl))
  refine zs_iload (pc := 933) dW_law_933 rfl ?_
  refine zs_if_ne (pc := 935) 950 dW_law_935 rfl (fun hb9 => ?_) (fun hb9 => ?_)
  · refine zs_goto (pc := 950) 3260 dW_law_950 rfl ?_
    exact K _ _ _ _ _ _ _ _ (by omega) (by omega) (by omega) (zLI_mk ha hr ht hX1 (fun _ _ => rfl) hM1 h31 h41 hc8 hLb her hfl)
  · have e0 : (aIdAt g (zgX Γ (nI (i + 1)).toNatClampNeg)).1 = 0 := Decidable.byContradiction fun q => nI_ne (by omega) (by decide) q hb9
    have z0 : (nI 0).toNatClampNeg = 0 := by decide
    have em : (aIdAt g (zgX Γ (nI (i + 1)).toNatClampNeg)).2 = (aIdAt g (zgX Γ (nI (i + 1)).toNatClampNeg)).2 := rfl
    have ec : lg_cmp (f2 (nI 0).toNatClampNeg) (aIdAt g (zgX Γ (nI (i + 1)).toNatClampNeg)).2.toInt64 = 0 := by rw [z0, hv0 e0, em]; exact lg_same
    refine zs_aload_n (pc := 938) dW_law_938 rfl ?_
    refine zs_iconst (pc := 939) dW_law_939 zi_0 ?_
    refine zs_lald (pc := 940) dW_law_940 (by (rw [z2_n (by omega) (by omega)]; exact h31)) (vp_in_nI (by decide) (by decide)) ?_
    refine zs_iload (pc := 941) dW_law_941 rfl ?_
    refine zs_i2l (pc := 943) dW_law_943 ?_
    refine zs_lcmp (pc := 944) dW_law_944 ?_
    refine zs_if_eq (pc := 945) 950 dW_law_945 rfl (fun _ => ?_) (fun h9 => absurd h9 (fun q => q ec))
    refine zs_goto (pc := 950) 3260 dW_law_950 rfl ?_
    exact K _ _ _ _ _ _ _ _ (by omega) (by omega) (by omega) (zLI_mk ha hr ht hX1 (fun _ _ => rfl) hM1 h31 h41 hc8 hLb her hfl)
theorem sL_weightOf {Γ : zG} {l : Launch} (hl : l.stackTraces = false) {d mc ms : Nat} (hd : 12 ≤ d) {FN : List Frame → Array Value → State → State → Prop} {x a r t n k ks i B : Nat} {h : zH} {v6 v7 v8 : Option Value} (ha : a = x + 481) (hr : r = a + 10) (ht : t = a + 11) (hB : B + 640 < 2 ^ 20) (hi : i + 4 ≤ zgL Γ) (hZ : zgL Γ < 2 ^ 31) (hk : k + 1 ≤ mc) (hks : ks + 6 ≤ ms) (hLI : zLI x a r t B h) (K : ∀ (h9 : zH) (n9 k9 ks9 B9 : Nat) (w6 w7 w8 : Option Value), k9 ≤ k + 1 → ks9 ≤ ks + 6 → B9 ≤ B + 300 → zLI x a r t B9 h9 → Z Γ l mW_law d mc ms FN 3260 [some (.ref (zgS Γ)), some (.ref x), some (.ref a), some (.ref r), some (.ref t), some (.int (nI i)), w6, w7, w8] [] h9 n9 k9 ks9) : Z Γ l mW_law d mc ms FN 953 [some (.ref (zgS Γ)), some (.ref x), some (.ref a), some (.ref r), some (.ref t), some (.int (nI i)), v6, v7, v8] [] h n k ks := by
  obtain ⟨g, P, c, sv, er, fl, T, np, L, f0, f1, s8, s16, s17, s18, s19, s20, hX, m0, m1, hM, h3, h4, hc8, hLb, her, hfl⟩ := hLI
  have hI : IG B g := hX.2.2.1
  obtain ⟨⟨st, hst, hx, htr⟩, hXr⟩ := id hX
  refine zs_aload_n (pc := 953) dW_law_953 rfl ?_
  refine zs_aload_n (pc := 954) dW_law_954 rfl ?_
  refine zs_iload (pc := 955) dW_law_955 rfl ?_
  refine zs_iconst (pc := 957) dW_law_957 zi_1 ?_
  refine zn_iadd (pc := 958) dW_law_958 ?_
  refine zs_sld (pc := 959) dW_law_959 (vp_in_nI (by omega) (by omega)) ?_
  refine zs_aload_n (pc := 960) dW_law_960 rfl ?_
  refine zcX_3 (pc := 961) (d2 := d - 1) (s_W_weightOf hl (by omega) hX (by omega) _ (by omega) h3) dW_law_961 kW_222 mdW_weightOf msW_weightOf (by decide) (Nat.le_of_ble_eq_true rfl) (by omega) (by omega) (by omega) (fun v h1 n1 hq => ?_) (fun E h1 n1 hq => absurd hq.1 (by intro q; cases q))
  obtain ⟨hv9, hn9, hf9, hX1, f2, h31, hv0⟩ := hq
  obtain rfl := Sum.inl.inj hv9
  have hM1 := MS.sm hM (h1 := h1) (fun q q1 q2 => hf9 q (by omega) (by omega))
  have m01 := (hf9 a (by omega) (by omega)).trans m0
  have m11 := (hf9 (a + 1) (by omega) (by omega)).trans m1
  have h41 := (hf9 t (by omega) (by omega)).trans h4
  rw [← z2_id m01 m11]
  obtain ⟨⟨A2, m2⟩, ⟨S, mS, mS2⟩, ⟨U, m4, mP⟩, m5, m6, m7, m8, ⟨C9, m9⟩⟩ := id hM1
  have hlt : (aOf g (zgX Γ (nI (i + 1)).toNatClampNeg) 1).1 < 2 := by
      unfold aOf
      (repeat' split) <;> exact Nat.le_of_ble_eq_true rfl
  refine zs_istore (pc := 964) (ls2 := [_, _, _, _, _, _, _, _, _]) dW_law_964 (Nat.le_of_ble_eq_true rfl) rfl ?_
  refine zs_aload_n (pc := 966) dW_law_966 rfl ?_
  refine zs_aload_n (pc := 967) dW_law_967 rfl ?_
  refine zs_iload (pc := 968) dW_law_968 rfl ?_
  refine zs_iconst (pc := 970) dW_law_970 zi_1 ?_
  refine zn_iadd (pc := 971) dW_law_971 ?_
  refine zs_sld (pc := 972) dW_law_972 (vp_in_nI (by omega) (by omega)) ?_
  refine zcV1_1 (pc := 973) (d2 := d - 1) (s_M_weightOf hl (by omega) hI _) dW_law_973 kW_224 mdM_weightOf miM_weightOf mvM_weightOf rfl (by first | exact z2_a | exact hx) rfl (Nat.le_of_ble_eq_true rfl) (by omega) (by omega) (by omega) ?_
  refine zs_istore (pc := 976) (ls2 := [_, _, _, _, _, _, _, _, _]) dW_law_976 (Nat.le_of_ble_eq_true rfl) rfl ?_
  refine zs_aload_n (pc := 978) dW_law_978 rfl ?_
  refine zcV1_0 (pc := 979) (d2 := d - 1) (s_M_thrown hl) dW_law_979 kW_183 mdM_thrown miM_thrown mvM_thrown rfl (by first | exact z2_a | exact hx) rfl (Nat.le_of_ble_eq_true rfl) (by omega) (by omega) (by omega) ?_
  refine zs_iload (pc := 982) dW_law_982 rfl ?_
  refine zs_icmp_eq (pc := 984) 989 dW_law_984 rfl (fun _ => ?_) (fun h9 => absurd h9 (fun q => q rfl))
  refine zs_iload (pc := 989) dW_law_989 rfl ?_
  refine zs_if_ne (pc := 991) 1006 dW_law_991 rfl (fun hb9 => ?_) (fun hb9 => ?_)
  · refine zs_goto (pc := 1006) 3260 dW_law_1006 rfl ?_
    exact K _ _ _ _ _ _ _ _ (by omega) (by omega) (by omega) (zLI_mk ha hr ht hX1 (fun _ _ => rfl) hM1 h31 h41 hc8 hLb her hfl)
  · have e0 : (aOf g (zgX Γ (nI (i + 1)).toNatClampNeg) 1).1 = 0 := Decidable.byContradiction fun q => nI_ne (by omega) (by decide) q hb9
    have z0 : (nI 0).toNatClampNeg = 0 := by decide
    have em : (aOf g (zgX Γ (nI (i + 1)).toNatClampNeg) 1).2 = (aOf g (zgX Γ (nI (i + 1)).toNatClampNeg) 1).2 := rfl
    have ec : lg_cmp (f2 (nI 0).toNatClampNeg) (aOf g (zgX Γ (nI (i + 1)).toNatClampNeg) 1).2.toInt64 = 0 := by rw [z0, hv0 e0, em]; exact lg_same
    refine zs_aload_n (pc := 994) dW_law_994 rfl ?_
    refine zs_iconst (pc := 995) dW_law_995 zi_0 ?_
    refine zs_lald (pc := 996) dW_law_996 (by (rw [z2_n (by omega) (by omega)]; exact h31)) (vp_in_nI (by decide) (by decide)) ?_
    refine zs_iload (pc := 997) dW_law_997 rfl ?_
    refine zs_i2l (pc := 999) dW_law_999 ?_
    refine zs_lcmp (pc := 1000) dW_law_1000 ?_
    refine zs_if_eq (pc := 1001) 1006 dW_law_1001 rfl (fun _ => ?_) (fun h9 => absurd h9 (fun q => q ec))
    refine zs_goto (pc := 1006) 3260 dW_law_1006 rfl ?_
    exact K _ _ _ _ _ _ _ _ (by omega) (by omega) (by omega) (zLI_mk ha hr ht hX1 (fun _ _ => rfl) hM1 h31 h41 hc8 hLb her hfl)
theorem sL_ageOf {Γ : zG} {l : Launch} (hl : l.stackTraces = false) {d mc ms : Nat} (hd : 12 ≤ d) {FN : List Frame → Array Value → State → State → Prop} {x a r t n k ks i B : Nat} {h : zH} {v6 v7 v8 : Option Value} (ha : a = x + 481) (hr : r = a + 10) (ht : t = a + 11) (hB : B + 640 < 2 ^ 20) (hi : i + 4 ≤ zgL Γ) (hZ : zgL Γ < 2 ^ 31) (hk : k + 1 ≤ mc) (hks : ks + 6 ≤ ms) (hLI : zLI x a r t B h) (K : ∀ (h9 : zH) (n9 k9 ks9 B9 : Nat) (w6 w7 w8 : Option Value), k9 ≤ k + 1 → ks9 ≤ ks + 6 → B9 ≤ B + 300 → zLI x a r t B9 h9 → Z Γ l mW_law d mc ms FN 3260 [some (.ref (zgS Γ)), some (.ref x), some (.ref a), some (.ref r), some (.ref t), some (.int (nI i)), w6, w7, w8] [] h9 n9 k9 ks9) : Z Γ l mW_law d mc ms FN 1009 [some (.ref (zgS Γ)), some (.ref x), some (.ref a), some (.ref r), some (.ref t), some (.int (nI i)), v6, v7, v8] [] h n k ks := by
  obtain ⟨g, P, c, sv, er, fl, T, np, L, f0, f1, s8, s16, s17, s18, s19, s20, hX, m0, m1, hM, h3, h4, hc8, hLb, her, hfl⟩ := hLI
  have hI : IG B g := hX.2.2.1
  obtain ⟨⟨st, hst, hx, htr⟩, hXr⟩ := id hX
  refine zs_aload_n (pc := 1009) dW_law_1009 rfl ?_
  refine zs_aload_n (pc := 1010) dW_law_1010 rfl ?_
  refine zs_iload (pc := 1011) dW_law_1011 rfl ?_
  refine zs_iconst (pc := 1013) dW_law_1013 zi_1 ?_
  refine zn_iadd (pc := 1014) dW_law_1014 ?_
  refine zs_sld (pc := 1015) dW_law_1015 (vp_in_nI (by omega) (by omega)) ?_
  refine zs_aload_n (pc := 1016) dW_law_1016 rfl ?_
  refine zcX_3 (pc := 1017) (d2 := d - 1) (s_W_ageOf hl (by omega) hX (by omega) _ (by omega) h3) dW_law_1017 kW_225 mdW_ageOf msW_ageOf (by decide) (Nat.le_of_ble_eq_true rfl) (by omega) (by omega) (by omega) (fun v h1 n1 hq => ?_) (fun E h1 n1 hq => absurd hq.1 (by intro q; cases q))
  obtain ⟨hv9, hn9, hf9, hX1, f2, h31, hv0⟩ := hq
  obtain rfl := Sum.inl.inj hv9
  have hM1 := MS.sm hM (h1 := h1) (fun q q1 q2 => hf9 q (by omega) (by omega))
  have m01 := (hf9 a (by omega) (by omega)).trans m0
  have m11 := (hf9 (a + 1) (by omega) (by omega)).trans m1
  have h41 := (hf9 t (by omega) (by omega)).trans h4
  rw [← z2_id m01 m11]
  obtain ⟨⟨A2, m2⟩, ⟨S, mS, mS2⟩, ⟨U, m4, mP⟩, m5, m6, m7, m8, ⟨C9, m9⟩⟩ := id hM1
  have hlt : (aOf g (zgX Γ (nI (i + 1)).toNatClampNeg) 2).1 < 2 := by
      unfold aOf
      (repeat' split) <;> exact Nat.le_of_ble_eq_true rfl
  refine zs_istore (pc := 1020) (ls2 := [_, _, _, _, _, _, _, _, _]) dW_law_1020 (Nat.le_of_ble_eq_true rfl) rfl ?_
  refine zs_aload_n (pc := 1022) dW_law_1022 rfl ?_
  refine zs_aload_n (pc := 1023) dW_law_1023 rfl ?_
  refine zs_iload (pc := 1024) dW_law_1024 rfl ?_
  refine zs_iconst (pc := 1026) dW_law_1026 zi_1 ?_
  refine zn_iadd (pc := 1027) dW_law_1027 ?_
  refine zs_sld (pc := 1028) dW_law_1028 (vp_in_nI (by omega) (by omega)) ?_
  refine zcV1_1 (pc := 1029) (d2 := d - 1) (s_M_ageOf hl (by omega) hI _) dW_law_1029 kW_227 mdM_ageOf miM_ageOf mvM_ageOf rfl (by first | exact z2_a | exact hx) rfl (Nat.le_of_ble_eq_true rfl) (by omega) (by omega) (by omega) ?_
  refine zs_istore (pc := 1032) (ls2 := [_, _, _, _, _, _, _, _, _]) dW_law_1032 (Nat.le_of_ble_eq_true rfl) rfl ?_
  refine zs_aload_n (pc := 1034) dW_law_1034 rfl ?_
  refine zcV1_0 (pc := 1035) (d2 := d - 1) (s_M_thrown hl) dW_law_1035 kW_183 mdM_thrown miM_thrown mvM_thrown rfl (by first | exact z2_a | exact hx) rfl (Nat.le_of_ble_eq_true rfl) (by omega) (by omega) (by omega) ?_
  refine zs_iload (pc := 1038) dW_law_1038 rfl ?_
  refine zs_icmp_eq (pc := 1040) 1045 dW_law_1040 rfl (fun _ => ?_) (fun h9 => absurd h9 (fun q => q rfl))
  refine zs_iload (pc := 1045) dW_law_1045 rfl ?_
  refine zs_if_ne (pc := 1047) 1062 dW_law_1047 rfl (fun hb9 => ?_) (fun hb9 => ?_)
  · refine zs_goto (pc := 1062) 3260 dW_law_1062 rfl ?_
    exact K _ _ _ _ _ _ _ _ (by omega) (by omega) (by omega) (zLI_mk ha hr ht hX1 (fun _ _ => rfl) hM1 h31 h41 hc8 hLb her hfl)
  · have e0 : (aOf g (zgX Γ (nI (i + 1)).toNatClampNeg) 2).1 = 0 := Decidable.byContradiction fun q => nI_ne (by omega) (by decide) q hb9
    have z0 : (nI 0).toNatClampNeg = 0 := by decide
    have em : (aOf g (zgX Γ (nI (i + 1)).toNatClampNeg) 2).2 = (aOf g (zgX Γ (nI (i + 1)).toNatClampNeg) 2).2 := rfl
    have ec : lg_cmp (f2 (nI 0).toNatClampNeg) (aOf g (zgX Γ (nI (i + 1)).toNatClampNeg) 2).2.toInt64 = 0 := by rw [z0, hv0 e0, em]; exact lg_same
    refine zs_aload_n (pc := 1050) dW_law_1050 rfl ?_
    refine zs_iconst (pc := 1051) dW_law_1051 zi_0 ?_
    refine zs_lald (pc := 1052) dW_law_1052 (by (rw [z2_n (by omega) (by omega)]; exact h31)) (vp_in_nI (by decide) (by decide)) ?_
    refine zs_iload (pc := 1053) dW_law_1053 rfl ?_
    refine zs_i2l (pc := 1055) dW_law_1055 ?_
    refine zs_lcmp (pc := 1056) dW_law_1056 ?_
    refine zs_if_eq (pc := 1057) 1062 dW_law_1057 rfl (fun _ => ?_) (fun h9 => absurd h9 (fun q => q ec))
    refine zs_goto (pc := 1062) 3260 dW_law_1062 rfl ?_
    exact K _ _ _ _ _ _ _ _ (by omega) (by omega) (by omega) (zLI_mk ha hr ht hX1 (fun _ _ => rfl) hM1 h31 h41 hc8 hLb her hfl)
theorem sL_hitsOf {Γ : zG} {l : Launch} (hl : l.stackTraces = false) {d mc ms : Nat} (hd : 12 ≤ d) {FN : List Frame → Array Value → State → State → Prop} {x a r t n k ks i B : Nat} {h : zH} {v6 v7 v8 : Option Value} (ha : a = x + 481) (hr : r = a + 10) (ht : t = a + 11) (hB : B + 640 < 2 ^ 20) (hi : i + 4 ≤ zgL Γ) (hZ : zgL Γ < 2 ^ 31) (hk : k + 1 ≤ mc) (hks : ks + 6 ≤ ms) (hLI : zLI x a r t B h) (K : ∀ (h9 : zH) (n9 k9 ks9 B9 : Nat) (w6 w7 w8 : Option Value), k9 ≤ k + 1 → ks9 ≤ ks + 6 → B9 ≤ B + 300 → zLI x a r t B9 h9 → Z Γ l mW_law d mc ms FN 3260 [some (.ref (zgS Γ)), some (.ref x), some (.ref a), some (.ref r), some (.ref t), some (.int (nI i)), w6, w7, w8] [] h9 n9 k9 ks9) : Z Γ l mW_law d mc ms FN 1065 [some (.ref (zgS Γ)), some (.ref x), some (.ref a), some (.ref r), some (.ref t), some (.int (nI i)), v6, v7, v8] [] h n k ks := by
  obtain ⟨g, P, c, sv, er, fl, T, np, L, f0, f1, s8, s16, s17, s18, s19, s20, hX, m0, m1, hM, h3, h4, hc8, hLb, her, hfl⟩ := hLI
  have hI : IG B g := hX.2.2.1
  obtain ⟨⟨st, hst, hx, htr⟩, hXr⟩ := id hX
  refine zs_aload_n (pc := 1065) dW_law_1065 rfl ?_
  refine zs_aload_n (pc := 1066) dW_law_1066 rfl ?_
  refine zs_iload (pc := 1067) dW_law_1067 rfl ?_
  refine zs_iconst (pc := 1069) dW_law_1069 zi_1 ?_
  refine zn_iadd (pc := 1070) dW_law_1070 ?_
  refine zs_sld (pc := 1071) dW_law_1071 (vp_in_nI (by omega) (by omega)) ?_
  refine zs_aload_n (pc := 1072) dW_law_1072 rfl ?_
  refine zcX_3 (pc := 1073) (d2 := d - 1) (s_W_hitsOf hl (by omega) hX (by omega) _ (by omega) h3) dW_law_1073 kW_228 mdW_hitsOf msW_hitsOf (by decide) (Nat.le_of_ble_eq_true rfl) (by omega) (by omega) (by omega) (fun v h1 n1 hq => ?_) (fun E h1 n1 hq => absurd hq.1 (by intro q; cases q))
  obtain ⟨hv9, hn9, hf9, hX1, f2, h31, hv0⟩ := hq
  obtain rfl := Sum.inl.inj hv9
  have hM1 := MS.sm hM (h1 := h1) (fun q q1 q2 => hf9 q (by omega) (by omega))
  have m01 := (hf9 a (by omega) (by omega)).trans m0
  have m11 := (hf9 (a + 1) (by omega) (by omega)).trans m1
  have h41 := (hf9 t (by omega) (by omega)).trans h4
  rw [← z2_id m01 m11]
  obtain ⟨⟨A2, m2⟩, ⟨S, mS, mS2⟩, ⟨U, m4, mP⟩, m5, m6, m7, m8, ⟨C9, m9⟩⟩ := id hM1
  have hlt : (aOf g (zgX Γ (nI (i + 1)).toNatClampNeg) 3).1 < 2 := by
      unfold aOf
      (repeat' split) <;> exact Nat.le_of_ble_eq_true rfl
  refine zs_istore (pc := 1076) (ls2 := [_, _, _, _, _, _, _, _, _]) dW_law_1076 (Nat.le_of_ble_eq_true rfl) rfl ?_
  refine zs_aload_n (pc := 1078) dW_law_1078 rfl ?_
  refine zs_aload_n (pc := 1079) dW_law_1079 rfl ?_
  refine zs_iload (pc := 1080) dW_law_1080 rfl ?_
  refine zs_iconst (pc := 1082) dW_law_1082 zi_1 ?_
  refine zn_iadd (pc := 1083) dW_law_1083 ?_
  refine zs_sld (pc := 1084) dW_law_1084 (vp_in_nI (by omega) (by omega)) ?_
  refine zcV1_1 (pc := 1085) (d2 := d - 1) (s_M_hitsOf hl (by omega) hI _) dW_law_1085 kW_230 mdM_hitsOf miM_hitsOf mvM_hitsOf rfl (by first | exact z2_a | exact hx) rfl (Nat.le_of_ble_eq_true rfl) (by omega) (by omega) (by omega) ?_
  refine zs_istore (pc := 1088) (ls2 := [_, _, _, _, _, _, _, _, _]) dW_law_1088 (Nat.le_of_ble_eq_true rfl) rfl ?_
  refine zs_aload_n (pc := 1090) dW_law_1090 rfl ?_
  refine zcV1_0 (pc := 1091) (d2 := d - 1) (s_M_thrown hl) dW_law_1091 kW_183 mdM_thrown miM_thrown mvM_thrown rfl (by first | exact z2_a | exact hx) rfl (Nat.le_of_ble_eq_true rfl) (by omega) (by omega) (by omega) ?_
  refine zs_iload (pc := 1094) dW_law_1094 rfl ?_
  refine zs_icmp_eq (pc := 1096) 1101 dW_law_1096 rfl (fun _ => ?_) (fun h9 => absurd h9 (fun q => q rfl))
  refine zs_iload (pc := 1101) dW_law_1101 rfl ?_
  refine zs_if_ne (pc := 1103) 1118 dW_law_1103 rfl (fun hb9 => ?_) (fun hb9 => ?_)
  · refine zs_goto (pc := 1118) 3260 dW_law_1118 rfl ?_
    exact K _ _ _ _ _ _ _ _ (by omega) (by omega) (by omega) (zLI_mk ha hr ht hX1 (fun _ _ => rfl) hM1 h31 h41 hc8 hLb her hfl)
  · have e0 : (aOf g (zgX Γ (nI (i + 1)).toNatClampNeg) 3).1 = 0 := Decidable.byContradiction fun q => nI_ne (by omega) (by decide) q hb9
    have z0 : (nI 0).toNatClampNeg = 0 := by decide
    have em : (aOf g (zgX Γ (nI (i + 1)).toNatClampNeg) 3).2 = (aOf g (zgX Γ (nI (i + 1)).toNatClampNeg) 3).2 := rfl
    have ec : lg_cmp (f2 (nI 0).toNatClampNeg) (aOf g (zgX Γ (nI (i + 1)).toNatClampNeg) 3).2.toInt64 = 0 := by rw [z0, hv0 e0, em]; exact lg_same
    refine zs_aload_n (pc := 1106) dW_law_1106 rfl ?_
    refine zs_iconst (pc := 1107) dW_law_1107 zi_0 ?_
    refine zs_lald (pc := 1108) dW_law_1108 (by (rw [z2_n (by omega) (by omega)]; exact h31)) (vp_in_nI (by decide) (by decide)) ?_
    refine zs_iload (pc := 1109) dW_law_1109 rfl ?_
    refine zs_i2l (pc := 1111) dW_law_1111 ?_
    refine zs_lcmp (pc := 1112) dW_law_1112 ?_
    refine zs_if_eq (pc := 1113) 1118 dW_law_1113 rfl (fun _ => ?_) (fun h9 => absurd h9 (fun q => q ec))
    refine zs_goto (pc := 1118) 3260 dW_law_1118 rfl ?_
    exact K _ _ _ _ _ _ _ _ (by omega) (by omega) (by omega) (zLI_mk ha hr ht hX1 (fun _ _ => rfl) hM1 h31 h41 hc8 hLb her hfl)
theorem sL_lifetimeOf {Γ : zG} {l : Launch} (hl : l.stackTraces = false) {d mc ms : Nat} (hd : 12 ≤ d) {FN : List Frame → Array Value → State → State → Prop} {x a r t n k ks i B : Nat} {h : zH} {v6 v7 v8 : Option Value} (ha : a = x + 481) (hr : r = a + 10) (ht : t = a + 11) (hB : B + 640 < 2 ^ 20) (hi : i + 4 ≤ zgL Γ) (hZ : zgL Γ < 2 ^ 31) (hk : k + 1 ≤ mc) (hks : ks + 6 ≤ ms) (hLI : zLI x a r t B h) (K : ∀ (h9 : zH) (n9 k9 ks9 B9 : Nat) (w6 w7 w8 : Option Value), k9 ≤ k + 1 → ks9 ≤ ks + 6 → B9 ≤ B + 300 → zLI x a r t B9 h9 → Z Γ l mW_law d mc ms FN 3260 [some (.ref (zgS Γ)), some (.ref x), some (.ref a), some (.ref r), some (.ref t), some (.int (nI i)), w6, w7, w8] [] h9 n9 k9 ks9) : Z Γ l mW_law d mc ms FN 1121 [some (.ref (zgS Γ)), some (.ref x), some (.ref a), some (.ref r), some (.ref t), some (.int (nI i)), v6, v7, v8] [] h n k ks := by
  obtain ⟨g, P, c, sv, er, fl, T, np, L, f0, f1, s8, s16, s17, s18, s19, s20, hX, m0, m1, hM, h3, h4, hc8, hLb, her, hfl⟩ := hLI
  have hI : IG B g := hX.2.2.1
  obtain ⟨⟨st, hst, hx, htr⟩, hXr⟩ := id hX
  refine zs_aload_n (pc := 1121) dW_law_1121 rfl ?_
  refine zs_aload_n (pc := 1122) dW_law_1122 rfl ?_
  refine zs_iload (pc := 1123) dW_law_1123 rfl ?_
  refine zs_iconst (pc := 1125) dW_law_1125 zi_1 ?_
  refine zn_iadd (pc := 1126) dW_law_1126 ?_
  refine zs_sld (pc := 1127) dW_law_1127 (vp_in_nI (by omega) (by omega)) ?_
  refine zs_aload_n (pc := 1128) dW_law_1128 rfl ?_
  refine zcX_3 (pc := 1129) (d2 := d - 1) (s_W_lifetimeOf hl (by omega) hX (by omega) _ (by omega) h3) dW_law_1129 kW_231 mdW_lifetimeOf msW_lifetimeOf (by decide) (Nat.le_of_ble_eq_true rfl) (by omega) (by omega) (by omega) (fun v h1 n1 hq => ?_) (fun E h1 n1 hq => absurd hq.1 (by intro q; cases q))
  obtain ⟨hv9, hn9, hf9, hX1, f2, h31, hv0⟩ := hq
  obtain rfl := Sum.inl.inj hv9
  have hM1 := MS.sm hM (h1 := h1) (fun q q1 q2 => hf9 q (by omega) (by omega))
  have m01 := (hf9 a (by omega) (by omega)).trans m0
  have m11 := (hf9 (a + 1) (by omega) (by omega)).trans m1
  have h41 := (hf9 t (by omega) (by omega)).trans h4
  rw [← z2_id m01 m11]
  obtain ⟨⟨A2, m2⟩, ⟨S, mS, mS2⟩, ⟨U, m4, mP⟩, m5, m6, m7, m8, ⟨C9, m9⟩⟩ := id hM1
  have hlt : (aLife g (zgX Γ (nI (i + 1)).toNatClampNeg)).1 < 2 := by
      unfold aLife
      (repeat' split) <;> exact Nat.le_of_ble_eq_true rfl
  refine zs_istore (pc := 1132) (ls2 := [_, _, _, _, _, _, _, _, _]) dW_law_1132 (Nat.le_of_ble_eq_true rfl) rfl ?_
  refine zs_aload_n (pc := 1134) dW_law_1134 rfl ?_
  refine zs_aload_n (pc := 1135) dW_law_1135 rfl ?_
  refine zs_iload (pc := 1136) dW_law_1136 rfl ?_
  refine zs_iconst (pc := 1138) dW_law_1138 zi_1 ?_
  refine zn_iadd (pc := 1139) dW_law_1139 ?_
  refine zs_sld (pc := 1140) dW_law_1140 (vp_in_nI (by omega) (by omega)) ?_
  refine zcV1_1 (pc := 1141) (d2 := d - 1) (s_M_lifetimeOf hl (by omega) hI (by omega) _) dW_law_1141 kW_233 mdM_lifetimeOf miM_lifetimeOf mvM_lifetimeOf rfl (by first | exact z2_a | exact hx) rfl (Nat.le_of_ble_eq_true rfl) (by omega) (by omega) (by omega) ?_
  refine zs_istore (pc := 1144) (ls2 := [_, _, _, _, _, _, _, _, _]) dW_law_1144 (Nat.le_of_ble_eq_true rfl) rfl ?_
  refine zs_aload_n (pc := 1146) dW_law_1146 rfl ?_
  refine zcV1_0 (pc := 1147) (d2 := d - 1) (s_M_thrown hl) dW_law_1147 kW_183 mdM_thrown miM_thrown mvM_thrown rfl (by first | exact z2_a | exact hx) rfl (Nat.le_of_ble_eq_true rfl) (by omega) (by omega) (by omega) ?_
  refine zs_iload (pc := 1150) dW_law_1150 rfl ?_
  refine zs_icmp_eq (pc := 1152) 1157 dW_law_1152 rfl (fun _ => ?_) (fun h9 => absurd h9 (fun q => q rfl))
  refine zs_iload (pc := 1157) dW_law_1157 rfl ?_
  refine zs_if_ne (pc := 1159) 1174 dW_law_1159 rfl (fun hb9 => ?_) (fun hb9 => ?_)
  · refine zs_goto (pc := 1174) 3260 dW_law_1174 rfl ?_
    exact K _ _ _ _ _ _ _ _ (by omega) (by omega) (by omega) (zLI_mk ha hr ht hX1 (fun _ _ => rfl) hM1 h31 h41 hc8 hLb her hfl)
  · have e0 : (aLife g (zgX Γ (nI (i + 1)).toNatClampNeg)).1 = 0 := Decidable.byContradiction fun q => nI_ne (by omega) (by decide) q hb9
    have z0 : (nI 0).toNatClampNeg = 0 := by decide
    have em : (aLife g (zgX Γ (nI (i + 1)).toNatClampNeg)).2 = (aLife g (zgX Γ (nI (i + 1)).toNatClampNeg)).2 := rfl
    have ec : lg_cmp (f2 (nI 0).toNatClampNeg) (aLife g (zgX Γ (nI (i + 1)).toNatClampNeg)).2.toInt64 = 0 := by rw [z0, hv0 e0, em]; exact lg_same
    refine zs_aload_n (pc := 1162) dW_law_1162 rfl ?_
    refine zs_iconst (pc := 1163) dW_law_1163 zi_0 ?_
    refine zs_lald (pc := 1164) dW_law_1164 (by (rw [z2_n (by omega) (by omega)]; exact h31)) (vp_in_nI (by decide) (by decide)) ?_
    refine zs_iload (pc := 1165) dW_law_1165 rfl ?_
    refine zs_i2l (pc := 1167) dW_law_1167 ?_
    refine zs_lcmp (pc := 1168) dW_law_1168 ?_
    refine zs_if_eq (pc := 1169) 1174 dW_law_1169 rfl (fun _ => ?_) (fun h9 => absurd h9 (fun q => q ec))
    refine zs_goto (pc := 1174) 3260 dW_law_1174 rfl ?_
    exact K _ _ _ _ _ _ _ _ (by omega) (by omega) (by omega) (zLI_mk ha hr ht hX1 (fun _ _ => rfl) hM1 h31 h41 hc8 hLb her hfl)
theorem sL_segmentOf {Γ : zG} {l : Launch} (hl : l.stackTraces = false) {d mc ms : Nat} (hd : 12 ≤ d) {FN : List Frame → Array Value → State → State → Prop} {x a r t n k ks i B : Nat} {h : zH} {v6 v7 v8 : Option Value} (ha : a = x + 481) (hr : r = a + 10) (ht : t = a + 11) (hB : B + 640 < 2 ^ 20) (hi : i + 4 ≤ zgL Γ) (hZ : zgL Γ < 2 ^ 31) (hk : k + 1 ≤ mc) (hks : ks + 6 ≤ ms) (hLI : zLI x a r t B h) (K : ∀ (h9 : zH) (n9 k9 ks9 B9 : Nat) (w6 w7 w8 : Option Value), k9 ≤ k + 1 → ks9 ≤ ks + 6 → B9 ≤ B + 300 → zLI x a r t B9 h9 → Z Γ l mW_law d mc ms FN 3260 [some (.ref (zgS Γ)), some (.ref x), some (.ref a), some (.ref r), some (.ref t), some (.int (nI i)), w6, w7, w8] [] h9 n9 k9 ks9) : Z Γ l mW_law d mc ms FN 1177 [some (.ref (zgS Γ)), some (.ref x), some (.ref a), some (.ref r), some (.ref t), some (.int (nI i)), v6, v7, v8] [] h n k ks := by
  obtain ⟨g, P, c, sv, er, fl, T, np, L, f0, f1, s8, s16, s17, s18, s19, s20, hX, m0, m1, hM, h3, h4, hc8, hLb, her, hfl⟩ := hLI
  have hI : IG B g := hX.2.2.1
  obtain ⟨⟨st, hst, hx, htr⟩, hXr⟩ := id hX
  refine zs_aload_n (pc := 1177) dW_law_1177 rfl ?_
  refine zs_aload_n (pc := 1178) dW_law_1178 rfl ?_
  refine zs_iload (pc := 1179) dW_law_1179 rfl ?_
  refine zs_iconst (pc := 1181) dW_law_1181 zi_1 ?_
  refine zn_iadd (pc := 1182) dW_law_1182 ?_
  refine zs_sld (pc := 1183) dW_law_1183 (vp_in_nI (by omega) (by omega)) ?_
  refine zs_aload_n (pc := 1184) dW_law_1184 rfl ?_
  refine zcX_3 (pc := 1185) (d2 := d - 1) (s_W_segmentOf hl (by omega) hX (by omega) _ (by omega) h3) dW_law_1185 kW_234 mdW_segmentOf msW_segmentOf (by decide) (Nat.le_of_ble_eq_true rfl) (by omega) (by omega) (by omega) (fun v h1 n1 hq => ?_) (fun E h1 n1 hq => absurd hq.1 (by intro q; cases q))
  obtain ⟨hv9, hn9, hf9, hX1, f2, h31, hv0⟩ := hq
  obtain rfl := Sum.inl.inj hv9
  have hM1 := MS.sm hM (h1 := h1) (fun q q1 q2 => hf9 q (by omega) (by omega))
  have m01 := (hf9 a (by omega) (by omega)).trans m0
  have m11 := (hf9 (a + 1) (by omega) (by omega)).trans m1
  have h41 := (hf9 t (by omega) (by omega)).trans h4
  rw [← z2_id m01 m11]
  obtain ⟨⟨A2, m2⟩, ⟨S, mS, mS2⟩, ⟨U, m4, mP⟩, m5, m6, m7, m8, ⟨C9, m9⟩⟩ := id hM1
  have hlt : (aOf g (zgX Γ (nI (i + 1)).toNatClampNeg) 4).1 < 2 := by
      unfold aOf
      (repeat' split) <;> exact Nat.le_of_ble_eq_true rfl
  refine zs_istore (pc := 1188) (ls2 := [_, _, _, _, _, _, _, _, _]) dW_law_1188 (Nat.le_of_ble_eq_true rfl) rfl ?_
  refine zs_aload_n (pc := 1190) dW_law_1190 rfl ?_
  refine zs_aload_n (pc := 1191) dW_law_1191 rfl ?_
  refine zs_iload (pc := 1192) dW_law_1192 rfl ?_
  refine zs_iconst (pc := 1194) dW_law_1194 zi_1 ?_
  refine zn_iadd (pc := 1195) dW_law_1195 ?_
  refine zs_sld (pc := 1196) dW_law_1196 (vp_in_nI (by omega) (by omega)) ?_
  refine zcV1_1 (pc := 1197) (d2 := d - 1) (s_M_segmentOf hl (by omega) hI _) dW_law_1197 kW_236 mdM_segmentOf miM_segmentOf mvM_segmentOf rfl (by first | exact z2_a | exact hx) rfl (Nat.le_of_ble_eq_true rfl) (by omega) (by omega) (by omega) ?_
  refine zs_istore (pc := 1200) (ls2 := [_, _, _, _, _, _, _, _, _]) dW_law_1200 (Nat.le_of_ble_eq_true rfl) rfl ?_
  refine zs_aload_n (pc := 1202) dW_law_1202 rfl ?_
  refine zcV1_0 (pc := 1203) (d2 := d - 1) (s_M_thrown hl) dW_law_1203 kW_183 mdM_thrown miM_thrown mvM_thrown rfl (by first | exact z2_a | exact hx) rfl (Nat.le_of_ble_eq_true rfl) (by omega) (by omega) (by omega) ?_
  refine zs_iload (pc := 1206) dW_law_1206 rfl ?_
  refine zs_icmp_eq (pc := 1208) 1213 dW_law_1208 rfl (fun _ => ?_) (fun h9 => absurd h9 (fun q => q rfl))
  refine zs_iload (pc := 1213) dW_law_1213 rfl ?_
  refine zs_if_ne (pc := 1215) 1230 dW_law_1215 rfl (fun hb9 => ?_) (fun hb9 => ?_)
  · refine zs_goto (pc := 1230) 3260 dW_law_1230 rfl ?_
    exact K _ _ _ _ _ _ _ _ (by omega) (by omega) (by omega) (zLI_mk ha hr ht hX1 (fun _ _ => rfl) hM1 h31 h41 hc8 hLb her hfl)
  · have e0 : (aOf g (zgX Γ (nI (i + 1)).toNatClampNeg) 4).1 = 0 := Decidable.byContradiction fun q => nI_ne (by omega) (by decide) q hb9
    have z0 : (nI 0).toNatClampNeg = 0 := by decide
    have em : (aOf g (zgX Γ (nI (i + 1)).toNatClampNeg) 4).2 = (aOf g (zgX Γ (nI (i + 1)).toNatClampNeg) 4).2 := rfl
    have ec : lg_cmp (f2 (nI 0).toNatClampNeg) (aOf g (zgX Γ (nI (i + 1)).toNatClampNeg) 4).2.toInt64 = 0 := by rw [z0, hv0 e0, em]; exact lg_same
    refine zs_aload_n (pc := 1218) dW_law_1218 rfl ?_
    refine zs_iconst (pc := 1219) dW_law_1219 zi_0 ?_
    refine zs_lald (pc := 1220) dW_law_1220 (by (rw [z2_n (by omega) (by omega)]; exact h31)) (vp_in_nI (by decide) (by decide)) ?_
    refine zs_iload (pc := 1221) dW_law_1221 rfl ?_
    refine zs_i2l (pc := 1223) dW_law_1223 ?_
    refine zs_lcmp (pc := 1224) dW_law_1224 ?_
    refine zs_if_eq (pc := 1225) 1230 dW_law_1225 rfl (fun _ => ?_) (fun h9 => absurd h9 (fun q => q ec))
    refine zs_goto (pc := 1230) 3260 dW_law_1230 rfl ?_
    exact K _ _ _ _ _ _ _ _ (by omega) (by omega) (by omega) (zLI_mk ha hr ht hX1 (fun _ _ => rfl) hM1 h31 h41 hc8 hLb her hfl)
theorem sL_codeCount {Γ : zG} {l : Launch} (hl : l.stackTraces = false) {d mc ms : Nat} (hd : 12 ≤ d) {FN : List Frame → Array Value → State → State → Prop} {x a r t n k ks i B : Nat} {h : zH} {v6 v7 v8 : Option Value} (ha : a = x + 481) (hr : r = a + 10) (ht : t = a + 11) (hB : B + 640 < 2 ^ 20) (hi : i + 4 ≤ zgL Γ) (hZ : zgL Γ < 2 ^ 31) (hk : k + 1 ≤ mc) (hks : ks + 6 ≤ ms) (hLI : zLI x a r t B h) (K : ∀ (h9 : zH) (n9 k9 ks9 B9 : Nat) (w6 w7 w8 : Option Value), k9 ≤ k + 1 → ks9 ≤ ks + 6 → B9 ≤ B + 300 → zLI x a r t B9 h9 → Z Γ l mW_law d mc ms FN 3260 [some (.ref (zgS Γ)), some (.ref x), some (.ref a), some (.ref r), some (.ref t), some (.int (nI i)), w6, w7, w8] [] h9 n9 k9 ks9) : Z Γ l mW_law d mc ms FN 1233 [some (.ref (zgS Γ)), some (.ref x), some (.ref a), some (.ref r), some (.ref t), some (.int (nI i)), v6, v7, v8] [] h n k ks := by
  obtain ⟨g, P, c, sv, er, fl, T, np, L, f0, f1, s8, s16, s17, s18, s19, s20, hX, m0, m1, hM, h3, h4, hc8, hLb, her, hfl⟩ := hLI
  have hI : IG B g := hX.2.2.1
  obtain ⟨⟨st, hst, hx, htr⟩, hXr⟩ := id hX
  refine zs_aload_n (pc := 1233) dW_law_1233 rfl ?_
  refine zs_aload_n (pc := 1234) dW_law_1234 rfl ?_
  refine zs_iload (pc := 1235) dW_law_1235 rfl ?_
  refine zs_iconst (pc := 1237) dW_law_1237 zi_1 ?_
  refine zn_iadd (pc := 1238) dW_law_1238 ?_
  refine zs_sld (pc := 1239) dW_law_1239 (vp_in_nI (by omega) (by omega)) ?_
  refine zs_aload_n (pc := 1240) dW_law_1240 rfl ?_
  refine zcX_3 (pc := 1241) (d2 := d - 1) (s_W_codeCount hl (by omega) hX (by omega) _ (by omega) h3) dW_law_1241 kW_237 mdW_codeCount msW_codeCount (by decide) (Nat.le_of_ble_eq_true rfl) (by omega) (by omega) (by omega) (fun v h1 n1 hq => ?_) (fun E h1 n1 hq => absurd hq.1 (by intro q; cases q))
  obtain ⟨hv9, hn9, hf9, hX1, f2, h31, hv0⟩ := hq
  obtain rfl := Sum.inl.inj hv9
  have hM1 := MS.sm hM (h1 := h1) (fun q q1 q2 => hf9 q (by omega) (by omega))
  have m01 := (hf9 a (by omega) (by omega)).trans m0
  have m11 := (hf9 (a + 1) (by omega) (by omega)).trans m1
  have h41 := (hf9 t (by omega) (by omega)).trans h4
  rw [← z2_id m01 m11]
  obtain ⟨⟨A2, m2⟩, ⟨S, mS, mS2⟩, ⟨U, m4, mP⟩, m5, m6, m7, m8, ⟨C9, m9⟩⟩ := id hM1
  have hlt : (aOf g (zgX Γ (nI (i + 1)).toNatClampNeg) 5).1 < 2 := by
      unfold aOf
      (repeat' split) <;> exact Nat.le_of_ble_eq_true rfl
  refine zs_istore (pc := 1244) (ls2 := [_, _, _, _, _, _, _, _, _]) dW_law_1244 (Nat.le_of_ble_eq_true rfl) rfl ?_
  refine zs_aload_n (pc := 1246) dW_law_1246 rfl ?_
  refine zs_aload_n (pc := 1247) dW_law_1247 rfl ?_
  refine zs_iload (pc := 1248) dW_law_1248 rfl ?_
  refine zs_iconst (pc := 1250) dW_law_1250 zi_1 ?_
  refine zn_iadd (pc := 1251) dW_law_1251 ?_
  refine zs_sld (pc := 1252) dW_law_1252 (vp_in_nI (by omega) (by omega)) ?_
  refine zcV1_1 (pc := 1253) (d2 := d - 1) (s_M_codeCount hl (by omega) hI _) dW_law_1253 kW_239 mdM_codeCount miM_codeCount mvM_codeCount rfl (by first | exact z2_a | exact hx) rfl (Nat.le_of_ble_eq_true rfl) (by omega) (by omega) (by omega) ?_
  refine zs_istore (pc := 1256) (ls2 := [_, _, _, _, _, _, _, _, _]) dW_law_1256 (Nat.le_of_ble_eq_true rfl) rfl ?_
  refine zs_aload_n (pc := 1258) dW_law_1258 rfl ?_
  refine zcV1_0 (pc := 1259) (d2 := d - 1) (s_M_thrown hl) dW_law_1259 kW_183 mdM_thrown miM_thrown mvM_thrown rfl (by first | exact z2_a | exact hx) rfl (Nat.le_of_ble_eq_true rfl) (by omega) (by omega) (by omega) ?_
  refine zs_iload (pc := 1262) dW_law_1262 rfl ?_
  refine zs_icmp_eq (pc := 1264) 1269 dW_law_1264 rfl (fun _ => ?_) (fun h9 => absurd h9 (fun q => q rfl))
  refine zs_iload (pc := 1269) dW_law_1269 rfl ?_
  refine zs_if_ne (pc := 1271) 1286 dW_law_1271 rfl (fun hb9 => ?_) (fun hb9 => ?_)
  · refine zs_goto (pc := 1286) 3260 dW_law_1286 rfl ?_
    exact K _ _ _ _ _ _ _ _ (by omega) (by omega) (by omega) (zLI_mk ha hr ht hX1 (fun _ _ => rfl) hM1 h31 h41 hc8 hLb her hfl)
  · have e0 : (aOf g (zgX Γ (nI (i + 1)).toNatClampNeg) 5).1 = 0 := Decidable.byContradiction fun q => nI_ne (by omega) (by decide) q hb9
    have z0 : (nI 0).toNatClampNeg = 0 := by decide
    have em : (aOf g (zgX Γ (nI (i + 1)).toNatClampNeg) 5).2 = (aOf g (zgX Γ (nI (i + 1)).toNatClampNeg) 5).2 := rfl
    have ec : lg_cmp (f2 (nI 0).toNatClampNeg) (aOf g (zgX Γ (nI (i + 1)).toNatClampNeg) 5).2.toInt64 = 0 := by rw [z0, hv0 e0, em]; exact lg_same
    refine zs_aload_n (pc := 1274) dW_law_1274 rfl ?_
    refine zs_iconst (pc := 1275) dW_law_1275 zi_0 ?_
    refine zs_lald (pc := 1276) dW_law_1276 (by (rw [z2_n (by omega) (by omega)]; exact h31)) (vp_in_nI (by decide) (by decide)) ?_
    refine zs_iload (pc := 1277) dW_law_1277 rfl ?_
    refine zs_i2l (pc := 1279) dW_law_1279 ?_
    refine zs_lcmp (pc := 1280) dW_law_1280 ?_
    refine zs_if_eq (pc := 1281) 1286 dW_law_1281 rfl (fun _ => ?_) (fun h9 => absurd h9 (fun q => q ec))
    refine zs_goto (pc := 1286) 3260 dW_law_1286 rfl ?_
    exact K _ _ _ _ _ _ _ _ (by omega) (by omega) (by omega) (zLI_mk ha hr ht hX1 (fun _ _ => rfl) hM1 h31 h41 hc8 hLb her hfl)
theorem sL_codeAt {Γ : zG} {l : Launch} (hl : l.stackTraces = false) {d mc ms : Nat} (hd : 12 ≤ d) {FN : List Frame → Array Value → State → State → Prop} {x a r t n k ks i B : Nat} {h : zH} {v6 v7 v8 : Option Value} (ha : a = x + 481) (hr : r = a + 10) (ht : t = a + 11) (hB : B + 640 < 2 ^ 20) (hi : i + 4 ≤ zgL Γ) (hZ : zgL Γ < 2 ^ 31) (hk : k + 1 ≤ mc) (hks : ks + 6 ≤ ms) (hLI : zLI x a r t B h) (K : ∀ (h9 : zH) (n9 k9 ks9 B9 : Nat) (w6 w7 w8 : Option Value), k9 ≤ k + 1 → ks9 ≤ ks + 6 → B9 ≤ B + 300 → zLI x a r t B9 h9 → Z Γ l mW_law d mc ms FN 3260 [some (.ref (zgS Γ)), some (.ref x), some (.ref a), some (.ref r), some (.ref t), some (.int (nI i)), w6, w7, w8] [] h9 n9 k9 ks9) : Z Γ l mW_law d mc ms FN 1289 [some (.ref (zgS Γ)), some (.ref x), some (.ref a), some (.ref r), some (.ref t), some (.int (nI i)), v6, v7, v8] [] h n k ks := by
  obtain ⟨g, P, c, sv, er, fl, T, np, L, f0, f1, s8, s16, s17, s18, s19, s20, hX, m0, m1, hM, h3, h4, hc8, hLb, her, hfl⟩ := hLI
  have hI : IG B g := hX.2.2.1
  obtain ⟨⟨st, hst, hx, htr⟩, hXr⟩ := id hX
  refine zs_aload_n (pc := 1289) dW_law_1289 rfl ?_
  refine zs_aload_n (pc := 1290) dW_law_1290 rfl ?_
  refine zs_iload (pc := 1291) dW_law_1291 rfl ?_
  refine zs_iconst (pc := 1293) dW_law_1293 zi_1 ?_
  refine zn_iadd (pc := 1294) dW_law_1294 ?_
  refine zs_sld (pc := 1295) dW_law_1295 (vp_in_nI (by omega) (by omega)) ?_
  refine zs_aload_n (pc := 1296) dW_law_1296 rfl ?_
  refine zs_iload (pc := 1297) dW_law_1297 rfl ?_
  refine zs_iconst (pc := 1299) dW_law_1299 zi_2 ?_
  refine zn_iadd (pc := 1300) dW_law_1300 ?_
  refine zs_sld (pc := 1301) dW_law_1301 (vp_in_nI (by omega) (by omega)) ?_
  refine zs_aload_n (pc := 1302) dW_law_1302 rfl ?_
  refine zcX_4 (pc := 1303) (d2 := d - 1) (s_W_codeAt hl (by omega) hX (by omega) _ _ (by omega) h3) dW_law_1303 kW_240 mdW_codeAt msW_codeAt (by decide) (Nat.le_of_ble_eq_true rfl) (by omega) (by omega) (by omega) (fun v h1 n1 hq => ?_) (fun E h1 n1 hq => absurd hq.1 (by intro q; cases q))
  obtain ⟨hv9, hn9, hf9, hX1, f2, h31, hv0⟩ := hq
  obtain rfl := Sum.inl.inj hv9
  have hM1 := MS.sm hM (h1 := h1) (fun q q1 q2 => hf9 q (by omega) (by omega))
  have m01 := (hf9 a (by omega) (by omega)).trans m0
  have m11 := (hf9 (a + 1) (by omega) (by omega)).trans m1
  have h41 := (hf9 t (by omega) (by omega)).trans h4
  rw [← z2_id m01 m11]
  obtain ⟨⟨A2, m2⟩, ⟨S, mS, mS2⟩, ⟨U, m4, mP⟩, m5, m6, m7, m8, ⟨C9, m9⟩⟩ := id hM1
  have hlt : (aCodeAt g (zgX Γ (nI (i + 1)).toNatClampNeg) (zgX Γ (nI (i + 2)).toNatClampNeg)).1 < 3 := by
      unfold aCodeAt
      (repeat' split) <;> exact Nat.le_of_ble_eq_true rfl
  refine zs_istore (pc := 1306) (ls2 := [_, _, _, _, _, _, _, _, _]) dW_law_1306 (Nat.le_of_ble_eq_true rfl) rfl ?_
  refine zs_aload_n (pc := 1308) dW_law_1308 rfl ?_
  refine zs_aload_n (pc := 1309) dW_law_1309 rfl ?_
  refine zs_iload (pc := 1310) dW_law_1310 rfl ?_
  refine zs_iconst (pc := 1312) dW_law_1312 zi_1 ?_
  refine zn_iadd (pc := 1313) dW_law_1313 ?_
  refine zs_sld (pc := 1314) dW_law_1314 (vp_in_nI (by omega) (by omega)) ?_
  refine zs_aload_n (pc := 1315) dW_law_1315 rfl ?_
  refine zs_iload (pc := 1316) dW_law_1316 rfl ?_
  refine zs_iconst (pc := 1318) dW_law_1318 zi_2 ?_
  refine zn_iadd (pc := 1319) dW_law_1319 ?_
  refine zs_sld (pc := 1320) dW_law_1320 (vp_in_nI (by omega) (by omega)) ?_
  refine zcV1_2 (pc := 1321) (d2 := d - 1) (s_M_codeAt hl (by omega) hI (by omega) _ _) dW_law_1321 kW_242 mdM_codeAt miM_codeAt mvM_codeAt rfl (by first | exact z2_a | exact hx) rfl (Nat.le_of_ble_eq_true rfl) (by omega) (by omega) (by omega) ?_
  refine zs_istore (pc := 1324) (ls2 := [_, _, _, _, _, _, _, _, _]) dW_law_1324 (Nat.le_of_ble_eq_true rfl) rfl ?_
  refine zs_aload_n (pc := 1326) dW_law_1326 rfl ?_
  refine zcV1_0 (pc := 1327) (d2 := d - 1) (s_M_thrown hl) dW_law_1327 kW_183 mdM_thrown miM_thrown mvM_thrown rfl (by first | exact z2_a | exact hx) rfl (Nat.le_of_ble_eq_true rfl) (by omega) (by omega) (by omega) ?_
  refine zs_iload (pc := 1330) dW_law_1330 rfl ?_
  refine zs_icmp_eq (pc := 1332) 1337 dW_law_1332 rfl (fun _ => ?_) (fun h9 => absurd h9 (fun q => q rfl))
  refine zs_iload (pc := 1337) dW_law_1337 rfl ?_
  refine zs_if_ne (pc := 1339) 1354 dW_law_1339 rfl (fun hb9 => ?_) (fun hb9 => ?_)
  · refine zs_goto (pc := 1354) 3260 dW_law_1354 rfl ?_
    exact K _ _ _ _ _ _ _ _ (by omega) (by omega) (by omega) (zLI_mk ha hr ht hX1 (fun _ _ => rfl) hM1 h31 h41 hc8 hLb her hfl)
  · have e0 : (aCodeAt g (zgX Γ (nI (i + 1)).toNatClampNeg) (zgX Γ (nI (i + 2)).toNatClampNeg)).1 = 0 := Decidable.byContradiction fun q => nI_ne (by omega) (by decide) q hb9
    have z0 : (nI 0).toNatClampNeg = 0 := by decide
    have em : (aCodeAt g (zgX Γ (nI (i + 1)).toNatClampNeg) (zgX Γ (nI (i + 2)).toNatClampNeg)).2 = (aCodeAt g (zgX Γ (nI (i + 1)).toNatClampNeg) (zgX Γ (nI (i + 2)).toNatClampNeg)).2 := rfl
    have ec : lg_cmp (f2 (nI 0).toNatClampNeg) (aCodeAt g (zgX Γ (nI (i + 1)).toNatClampNeg) (zgX Γ (nI (i + 2)).toNatClampNeg)).2.toInt64 = 0 := by rw [z0, hv0 e0, em]; exact lg_same
    refine zs_aload_n (pc := 1342) dW_law_1342 rfl ?_
    refine zs_iconst (pc := 1343) dW_law_1343 zi_0 ?_
    refine zs_lald (pc := 1344) dW_law_1344 (by (rw [z2_n (by omega) (by omega)]; exact h31)) (vp_in_nI (by decide) (by decide)) ?_
    refine zs_iload (pc := 1345) dW_law_1345 rfl ?_
    refine zs_i2l (pc := 1347) dW_law_1347 ?_
    refine zs_lcmp (pc := 1348) dW_law_1348 ?_
    refine zs_if_eq (pc := 1349) 1354 dW_law_1349 rfl (fun _ => ?_) (fun h9 => absurd h9 (fun q => q ec))
    refine zs_goto (pc := 1354) 3260 dW_law_1354 rfl ?_
    exact K _ _ _ _ _ _ _ _ (by omega) (by omega) (by omega) (zLI_mk ha hr ht hX1 (fun _ _ => rfl) hM1 h31 h41 hc8 hLb her hfl)
theorem sL_hasCode {Γ : zG} {l : Launch} (hl : l.stackTraces = false) {d mc ms : Nat} (hd : 12 ≤ d) {FN : List Frame → Array Value → State → State → Prop} {x a r t n k ks i B : Nat} {h : zH} {v6 v7 v8 : Option Value} (ha : a = x + 481) (hr : r = a + 10) (ht : t = a + 11) (hB : B + 640 < 2 ^ 20) (hi : i + 4 ≤ zgL Γ) (hZ : zgL Γ < 2 ^ 31) (hk : k + 1 ≤ mc) (hks : ks + 6 ≤ ms) (hLI : zLI x a r t B h) (K : ∀ (h9 : zH) (n9 k9 ks9 B9 : Nat) (w6 w7 w8 : Option Value), k9 ≤ k + 1 → ks9 ≤ ks + 6 → B9 ≤ B + 300 → zLI x a r t B9 h9 → Z Γ l mW_law d mc ms FN 3260 [some (.ref (zgS Γ)), some (.ref x), some (.ref a), some (.ref r), some (.ref t), some (.int (nI i)), w6, w7, w8] [] h9 n9 k9 ks9) : Z Γ l mW_law d mc ms FN 1357 [some (.ref (zgS Γ)), some (.ref x), some (.ref a), some (.ref r), some (.ref t), some (.int (nI i)), v6, v7, v8] [] h n k ks := by
  obtain ⟨g, P, c, sv, er, fl, T, np, L, f0, f1, s8, s16, s17, s18, s19, s20, hX, m0, m1, hM, h3, h4, hc8, hLb, her, hfl⟩ := hLI
  have hI : IG B g := hX.2.2.1
  obtain ⟨⟨st, hst, hx, htr⟩, hXr⟩ := id hX
  refine zs_aload_n (pc := 1357) dW_law_1357 rfl ?_
  refine zs_aload_n (pc := 1358) dW_law_1358 rfl ?_
  refine zs_iload (pc := 1359) dW_law_1359 rfl ?_
  refine zs_iconst (pc := 1361) dW_law_1361 zi_1 ?_
  refine zn_iadd (pc := 1362) dW_law_1362 ?_
  refine zs_sld (pc := 1363) dW_law_1363 (vp_in_nI (by omega) (by omega)) ?_
  refine zs_aload_n (pc := 1364) dW_law_1364 rfl ?_
  refine zs_iload (pc := 1365) dW_law_1365 rfl ?_
  refine zs_iconst (pc := 1367) dW_law_1367 zi_2 ?_
  refine zn_iadd (pc := 1368) dW_law_1368 ?_
  refine zs_sld (pc := 1369) dW_law_1369 (vp_in_nI (by omega) (by omega)) ?_
  refine zs_aload_n (pc := 1370) dW_law_1370 rfl ?_
  refine zcX_4 (pc := 1371) (d2 := d - 1) (s_W_hasCode hl (by omega) hX (by omega) _ _ (by omega) h3) dW_law_1371 kW_243 mdW_hasCode msW_hasCode (by decide) (Nat.le_of_ble_eq_true rfl) (by omega) (by omega) (by omega) (fun v h1 n1 hq => ?_) (fun E h1 n1 hq => absurd hq.1 (by intro q; cases q))
  obtain ⟨hv9, hn9, hf9, hX1, f2, h31, hv0⟩ := hq
  obtain rfl := Sum.inl.inj hv9
  have hM1 := MS.sm hM (h1 := h1) (fun q q1 q2 => hf9 q (by omega) (by omega))
  have m01 := (hf9 a (by omega) (by omega)).trans m0
  have m11 := (hf9 (a + 1) (by omega) (by omega)).trans m1
  have h41 := (hf9 t (by omega) (by omega)).trans h4
  rw [← z2_id m01 m11]
  obtain ⟨⟨A2, m2⟩, ⟨S, mS, mS2⟩, ⟨U, m4, mP⟩, m5, m6, m7, m8, ⟨C9, m9⟩⟩ := id hM1
  have hlt : (aHas g (zgX Γ (nI (i + 1)).toNatClampNeg) (zgX Γ (nI (i + 2)).toNatClampNeg)).1 < 3 := by
      unfold aHas
      (repeat' split) <;> exact Nat.le_of_ble_eq_true rfl
  refine zs_istore (pc := 1374) (ls2 := [_, _, _, _, _, _, _, _, _]) dW_law_1374 (Nat.le_of_ble_eq_true rfl) rfl ?_
  refine zs_aload_n (pc := 1376) dW_law_1376 rfl ?_
  refine zs_aload_n (pc := 1377) dW_law_1377 rfl ?_
  refine zs_iload (pc := 1378) dW_law_1378 rfl ?_
  refine zs_iconst (pc := 1380) dW_law_1380 zi_1 ?_
  refine zn_iadd (pc := 1381) dW_law_1381 ?_
  refine zs_sld (pc := 1382) dW_law_1382 (vp_in_nI (by omega) (by omega)) ?_
  refine zs_aload_n (pc := 1383) dW_law_1383 rfl ?_
  refine zs_iload (pc := 1384) dW_law_1384 rfl ?_
  refine zs_iconst (pc := 1386) dW_law_1386 zi_2 ?_
  refine zn_iadd (pc := 1387) dW_law_1387 ?_
  refine zs_sld (pc := 1388) dW_law_1388 (vp_in_nI (by omega) (by omega)) ?_
  refine zcV1_2 (pc := 1389) (d2 := d - 1) (s_M_hasCode hl (by omega) hI (by omega) _ _) dW_law_1389 kW_245 mdM_hasCode miM_hasCode mvM_hasCode rfl (by first | exact z2_a | exact hx) rfl (Nat.le_of_ble_eq_true rfl) (by omega) (by omega) (by omega) ?_
  refine zs_istore (pc := 1392) (ls2 := [_, _, _, _, _, _, _, _, _]) dW_law_1392 (Nat.le_of_ble_eq_true rfl) rfl ?_
  refine zs_aload_n (pc := 1394) dW_law_1394 rfl ?_
  refine zcV1_0 (pc := 1395) (d2 := d - 1) (s_M_thrown hl) dW_law_1395 kW_183 mdM_thrown miM_thrown mvM_thrown rfl (by first | exact z2_a | exact hx) rfl (Nat.le_of_ble_eq_true rfl) (by omega) (by omega) (by omega) ?_
  refine zs_iload (pc := 1398) dW_law_1398 rfl ?_
  refine zs_icmp_eq (pc := 1400) 1405 dW_law_1400 rfl (fun _ => ?_) (fun h9 => absurd h9 (fun q => q rfl))
  refine zs_iload (pc := 1405) dW_law_1405 rfl ?_
  refine zs_if_ne (pc := 1407) 1429 dW_law_1407 rfl (fun hb9 => ?_) (fun hb9 => ?_)
  · refine zs_goto (pc := 1429) 3260 dW_law_1429 rfl ?_
    exact K _ _ _ _ _ _ _ _ (by omega) (by omega) (by omega) (zLI_mk ha hr ht hX1 (fun _ _ => rfl) hM1 h31 h41 hc8 hLb her hfl)
  · have e0 : (aHas g (zgX Γ (nI (i + 1)).toNatClampNeg) (zgX Γ (nI (i + 2)).toNatClampNeg)).1 = 0 := Decidable.byContradiction fun q => nI_ne (by omega) (by decide) q hb9
    have z0 : (nI 0).toNatClampNeg = 0 := by decide
    have em : mB (aHas g (zgX Γ (nI (i + 1)).toNatClampNeg) (zgX Γ (nI (i + 2)).toNatClampNeg)) = (aHas g (zgX Γ (nI (i + 1)).toNatClampNeg) (zgX Γ (nI (i + 2)).toNatClampNeg)).2 := if_pos e0
    rw [em]
    have ev := hv0 e0
    rw [← z0] at ev
    refine zs_aload_n (pc := 1410) dW_law_1410 rfl ?_
    refine zs_iconst (pc := 1411) dW_law_1411 zi_0 ?_
    refine zs_lald (pc := 1412) dW_law_1412 (by (rw [z2_n (by omega) (by omega)]; exact h31)) (vp_in_nI (by decide) (by decide)) ?_
    refine zs_iload (pc := 1413) dW_law_1413 rfl ?_
    refine zs_if_eq (pc := 1415) 1422 dW_law_1415 rfl (fun hb8 => ?_) (fun hb8 => ?_)
    · rw [if_pos hb8] at ev
      have ec : lg_cmp (f2 (nI 0).toNatClampNeg) 0 = 0 := by rw [ev]; exact lg_same
      refine zs_lconst (pc := 1422) (v := 0) dW_law_1422 (by decide) ?_
      refine zs_lcmp (pc := 1423) dW_law_1423 ?_
      refine zs_if_eq (pc := 1424) 1429 dW_law_1424 rfl (fun _ => ?_) (fun h9 => absurd h9 (fun q => q ec))
      refine zs_goto (pc := 1429) 3260 dW_law_1429 rfl ?_
      exact K _ _ _ _ _ _ _ _ (by omega) (by omega) (by omega) (zLI_mk ha hr ht hX1 (fun _ _ => rfl) hM1 h31 h41 hc8 hLb her hfl)
    · rw [if_neg hb8] at ev
      have ec : lg_cmp (f2 (nI 0).toNatClampNeg) 1 = 0 := by rw [ev]; exact lg_same
      refine zs_lconst (pc := 1418) (v := 1) dW_law_1418 (by decide) ?_
      refine zs_goto (pc := 1419) 1423 dW_law_1419 rfl ?_
      refine zs_lcmp (pc := 1423) dW_law_1423 ?_
      refine zs_if_eq (pc := 1424) 1429 dW_law_1424 rfl (fun _ => ?_) (fun h9 => absurd h9 (fun q => q ec))
      refine zs_goto (pc := 1429) 3260 dW_law_1429 rfl ?_
      exact K _ _ _ _ _ _ _ _ (by omega) (by omega) (by omega) (zLI_mk ha hr ht hX1 (fun _ _ => rfl) hM1 h31 h41 hc8 hLb her hfl)

