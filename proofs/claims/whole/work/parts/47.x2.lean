/-! the whole object: questions about entries -/
theorem s_X_codeAt {Γ : zG} {l : Launch} (hl : l.stackTraces = false) {d : Nat} (hd : 3 ≤ d) {h : zH} {n : Nat} {B x c np : Nat} {g T : Nat → Nat} {P : Nat → Nat → Nat} {sv : Option (Nat → Nat)} {er fl : Option Nat} {L : List Nat} (hX : XR B h x g P c sv er fl T np L) (hB : B < 2 ^ 20) (y z : Int32) : zC Γ l d mX_codeAt [.ref x, .int y, .int z] h n 1 6 (zXq x h n ["", sNS, sIB] (aCodeAt g y z) (fun h1 => XR B h1 x g P c sv er fl T np L)) := by
  have hX9 := hX
  obtain ⟨⟨st, hst, hx, htr⟩, ⟨p, Q, hC, hp, hA⟩, hI, -⟩ := hX
  have i0 := hI.1
  have e1 : zFg g 1 = g 0 := rfl
  unfold aCodeAt
  refine zC_of (ls := [some (.ref x), some (.int y), some (.int z), none]) hl (by decide +kernel) rfl (Nat.le_of_ble_eq_true rfl) rfl ?_
  cases hH : zHas g y with
  | false =>
    rw [if_neg (by decide)]
    refine zs_aload_n (pc := 0) dX_codeAt_0 rfl ?_
    refine zs_iload_n (pc := 1) dX_codeAt_1 rfl ?_
    refine zcVT_1 (pc := 2) (d2 := d - 1) (s_X_existing_n hl (by omega) hx hC hp hA hI hH) dX_codeAt_2 kX_127 mdX_existing miX_existing mvX_existing rfl (by first | exact hx | exact h0.1) rfl (Nat.le_of_ble_eq_true rfl) (by omega) (by omega) (by omega) rfl (fun n2 hn2 => ?_)
    exact ⟨zOut.n rfl hn2, zfr.rf, hX9⟩
  | true =>
    rw [if_pos rfl]
    obtain ⟨f1, f2, f3⟩ := zHas_y hH
    generalize zAt g y = k at f1 f2 f3 ⊢
    have h0 := hC.2.2 (p k) (hp.1 k (by omega))
    have hA1 := hA k f1
    have hb := hA1.b (hI.b hB f1)
    have h5 := hA1.e5
    have h6 := hI.s6 k f1
    cases hv : zIx z (eg g k 5) with
    | true =>
      rw [if_pos rfl]
      obtain ⟨v1, v2⟩ := zIx_y hv
      generalize z.toInt.toNat = j at v1 v2 ⊢
      subst v2
      refine zs_aload_n (pc := 0) dX_codeAt_0 rfl ?_
      refine zs_iload_n (pc := 1) dX_codeAt_1 rfl ?_
      refine zcV1_1 (pc := 2) (d2 := d - 1) (s_X_existing_y hl (by omega) hx hC hp hA hI f1 f2 f3) dX_codeAt_2 kX_127 mdX_existing miX_existing mvX_existing rfl (by first | exact hx | exact h0.1) rfl (Nat.le_of_ble_eq_true rfl) (by omega) (by omega) (by omega) ?_
      refine zs_astore_n (pc := 5) (ls2 := [_, _, _, _]) dX_codeAt_5 (Nat.le_of_ble_eq_true rfl) rfl ?_
      refine zs_iload_n (pc := 6) dX_codeAt_6 rfl ?_
      refine zs_if_lt (pc := 7) 18 dX_codeAt_7 rfl (fun h9 => absurd h9 (nI_pos (by omega))) (fun _ => ?_)
      refine zs_iload_n (pc := 10) dX_codeAt_10 rfl ?_
      refine zs_aload_n (pc := 11) dX_codeAt_11 rfl ?_
      refine zs_get (pc := 12) dX_codeAt_12 fX_147 (by first | exact h0.1 | exact h0.2) (by rfl) ?_
      refine zn_icmp_lt (pc := 15) 28 dX_codeAt_15 rfl (by omega) (by omega) (fun _ => ?_) (fun h9 => absurd h9 (by omega))
      refine zs_aload_n (pc := 28) dX_codeAt_28 rfl ?_
      refine zs_get (pc := 29) dX_codeAt_29 fX_150 (by first | exact h0.1 | exact h0.2) (by rfl) ?_
      refine zs_iload_n (pc := 32) dX_codeAt_32 rfl ?_
      refine zn_iald (pc := 33) dX_codeAt_33 (by first | exact h0.1 | exact h0.2) (by omega) (by first | decide | assumption) ?_
      rw [hA1 (6 + j) (by omega)]
      exact zs_iret (pc := 34) dX_codeAt_34 rfl rfl (by omega) (by omega) (⟨zOut.y, zfr.rf, hX9⟩)
    | false =>
      rw [if_neg (by decide)]
      refine zs_aload_n (pc := 0) dX_codeAt_0 rfl ?_
      refine zs_iload_n (pc := 1) dX_codeAt_1 rfl ?_
      refine zcV1_1 (pc := 2) (d2 := d - 1) (s_X_existing_y hl (by omega) hx hC hp hA hI f1 f2 f3) dX_codeAt_2 kX_127 mdX_existing miX_existing mvX_existing rfl (by first | exact hx | exact h0.1) rfl (Nat.le_of_ble_eq_true rfl) (by omega) (by omega) (by omega) ?_
      refine zs_astore_n (pc := 5) (ls2 := [_, _, _, _]) dX_codeAt_5 (Nat.le_of_ble_eq_true rfl) rfl ?_
      refine zs_iload_n (pc := 6) dX_codeAt_6 rfl ?_
      refine zs_if_lt (pc := 7) 18 dX_codeAt_7 rfl (fun hb9 => ?_) (fun hb9 => ?_)
      · exact zs_throw (pc := 18) (text := "no such position") thIB (by decide) rfl dX_codeAt_18 dX_codeAt_21 dX_codeAt_22 dX_codeAt_24 dX_codeAt_27 (Nat.le_of_ble_eq_true rfl) (by omega) (by omega) (fun n2 hn2 => ⟨zOut.n rfl hn2, zfr.rf, hX9⟩)
      · refine zs_iload_n (pc := 10) dX_codeAt_10 rfl ?_
        refine zs_aload_n (pc := 11) dX_codeAt_11 rfl ?_
        refine zs_get (pc := 12) dX_codeAt_12 fX_147 (by first | exact h0.1 | exact h0.2) (by rfl) ?_
        rw [h5]
        refine zs_icmp_lt (pc := 15) 28 dX_codeAt_15 rfl (fun h9 => absurd h9 (zIx_n hv hb9 (by omega))) (fun _ => ?_)
        exact zs_throw (pc := 18) (text := "no such position") thIB (by decide) rfl dX_codeAt_18 dX_codeAt_21 dX_codeAt_22 dX_codeAt_24 dX_codeAt_27 (Nat.le_of_ble_eq_true rfl) (by omega) (by omega) (fun n2 hn2 => ⟨zOut.n rfl hn2, zfr.rf, hX9⟩)
theorem s_X_hasCode {Γ : zG} {l : Launch} (hl : l.stackTraces = false) {d : Nat} (hd : 3 ≤ d) {h : zH} {n : Nat} {B x c np : Nat} {g T : Nat → Nat} {P : Nat → Nat → Nat} {sv : Option (Nat → Nat)} {er fl : Option Nat} {L : List Nat} (hX : XR B h x g P c sv er fl T np L) (hB : B < 2 ^ 20) (y z : Int32) : zC Γ l d mX_hasCode [.ref x, .int y, .int z] h n 1 6 (zXq x h n ["", sNS, sIA] (aHas g y z) (fun h1 => XR B h1 x g P c sv er fl T np L)) := by
  have hX9 := hX
  obtain ⟨⟨st, hst, hx, htr⟩, ⟨p, Q, hC, hp, hA⟩, hI, -⟩ := hX
  have i0 := hI.1
  have e1 : zFg g 1 = g 0 := rfl
  unfold aHas
  refine zC_of (ls := [some (.ref x), some (.int y), some (.int z), none]) hl (by decide +kernel) rfl (Nat.le_of_ble_eq_true rfl) rfl ?_
  cases hH : zHas g y with
  | false =>
    rw [if_neg (by decide)]
    refine zs_aload_n (pc := 0) dX_hasCode_0 rfl ?_
    refine zs_iload_n (pc := 1) dX_hasCode_1 rfl ?_
    refine zcVT_1 (pc := 2) (d2 := d - 1) (s_X_existing_n hl (by omega) hx hC hp hA hI hH) dX_hasCode_2 kX_127 mdX_existing miX_existing mvX_existing rfl (by first | exact hx | exact h0.1) rfl (Nat.le_of_ble_eq_true rfl) (by omega) (by omega) (by omega) rfl (fun n2 hn2 => ?_)
    exact ⟨zOut.n rfl hn2, zfr.rf, hX9⟩
  | true =>
    rw [if_pos rfl]
    obtain ⟨f1, f2, f3⟩ := zHas_y hH
    generalize zAt g y = k at f1 f2 f3 ⊢
    have h0 := hC.2.2 (p k) (hp.1 k (by omega))
    have hA1 := hA k f1
    have hb := hA1.b (hI.b hB f1)
    have h5 := hA1.e5
    have h6 := hI.s6 k f1
    cases hv : zV z 0 999 with
    | true =>
      rw [if_pos rfl]
      obtain ⟨v1, v2, v3⟩ := zV_y hv
      generalize z.toInt.toNat = j at v1 v2 v3 ⊢
      subst v3
      refine zs_aload_n (pc := 0) dX_hasCode_0 rfl ?_
      refine zs_iload_n (pc := 1) dX_hasCode_1 rfl ?_
      refine zcV1_1 (pc := 2) (d2 := d - 1) (s_X_existing_y hl (by omega) hx hC hp hA hI f1 f2 f3) dX_hasCode_2 kX_127 mdX_existing miX_existing mvX_existing rfl (by first | exact hx | exact h0.1) rfl (Nat.le_of_ble_eq_true rfl) (by omega) (by omega) (by omega) ?_
      refine zs_astore_n (pc := 5) (ls2 := [_, _, _, _]) dX_hasCode_5 (Nat.le_of_ble_eq_true rfl) rfl ?_
      refine zs_iload_n (pc := 6) dX_hasCode_6 rfl ?_
      refine zcS0_1 (pc := 7) (d2 := d - 1) (s_X_requireCode_y hl (by omega) (by omega)) dX_hasCode_7 kX_154 mdX_requireCode msX_requireCode rfl (Nat.le_of_ble_eq_true rfl) (by omega) (by omega) (by omega) ?_
      refine zs_aload_n (pc := 10) dX_hasCode_10 rfl ?_
      refine zs_iload_n (pc := 11) dX_hasCode_11 rfl ?_
      refine zcV1_1 (pc := 12) (d2 := d - 1) (s_E_holds hl hb h0.1 h0.2 (by omega)) dX_hasCode_12 kX_157 mdE_holds miE_holds mvE_holds rfl (by first | exact hx | exact h0.1) rfl (Nat.le_of_ble_eq_true rfl) (by omega) (by omega) (by omega) ?_
      rw [hA1.inn]
      exact zs_iret (pc := 15) dX_hasCode_15 rfl (by first | rfl | exact znarB _) (by omega) (by omega) (⟨zOut.y, zfr.rf, hX9⟩)
    | false =>
      rw [if_neg (by decide)]
      have hv2 := zV_n (by decide) hv
      refine zs_aload_n (pc := 0) dX_hasCode_0 rfl ?_
      refine zs_iload_n (pc := 1) dX_hasCode_1 rfl ?_
      refine zcV1_1 (pc := 2) (d2 := d - 1) (s_X_existing_y hl (by omega) hx hC hp hA hI f1 f2 f3) dX_hasCode_2 kX_127 mdX_existing miX_existing mvX_existing rfl (by first | exact hx | exact h0.1) rfl (Nat.le_of_ble_eq_true rfl) (by omega) (by omega) (by omega) ?_
      refine zs_astore_n (pc := 5) (ls2 := [_, _, _, _]) dX_hasCode_5 (Nat.le_of_ble_eq_true rfl) rfl ?_
      refine zs_iload_n (pc := 6) dX_hasCode_6 rfl ?_
      refine zcST_1 (pc := 7) (d2 := d - 1) (s_X_requireCode_n hl (by omega) (fun ⟨c, c1, c2⟩ => hv2 ⟨c, by omega, by omega, c2⟩)) dX_hasCode_7 kX_154 mdX_requireCode msX_requireCode rfl (Nat.le_of_ble_eq_true rfl) (by omega) (by omega) (by omega) rfl (fun n2 hn2 => ?_)
      exact ⟨zOut.n rfl hn2, zfr.rf, hX9⟩
theorem s_X_matches {Γ : zG} {l : Launch} (hl : l.stackTraces = false) {d : Nat} (hd : 3 ≤ d) {h : zH} {n : Nat} {B x c np : Nat} {g T : Nat → Nat} {P : Nat → Nat → Nat} {sv : Option (Nat → Nat)} {er fl : Option Nat} {L : List Nat} (hX : XR B h x g P c sv er fl T np L) (hB : B < 2 ^ 20) (y z w : Int32) : zC Γ l d mX_matches [.ref x, .int y, .int z, .int w] h n 1 6 (zXq x h n ["", sNS, sIA] (aMat g y z w) (fun h1 => XR B h1 x g P c sv er fl T np L)) := by
  have hX9 := hX
  obtain ⟨⟨st, hst, hx, htr⟩, ⟨p, Q, hC, hp, hA⟩, hI, -⟩ := hX
  have i0 := hI.1
  have e1 : zFg g 1 = g 0 := rfl
  unfold aMat
  refine zC_of (ls := [some (.ref x), some (.int y), some (.int z), some (.int w), none]) hl (by decide +kernel) rfl (Nat.le_of_ble_eq_true rfl) rfl ?_
  cases hH : zHas g y with
  | false =>
    rw [if_neg (by decide)]
    refine zs_aload_n (pc := 0) dX_matches_0 rfl ?_
    refine zs_iload_n (pc := 1) dX_matches_1 rfl ?_
    refine zcVT_1 (pc := 2) (d2 := d - 1) (s_X_existing_n hl (by omega) hx hC hp hA hI hH) dX_matches_2 kX_127 mdX_existing miX_existing mvX_existing rfl (by first | exact hx | exact h0.1) rfl (Nat.le_of_ble_eq_true rfl) (by omega) (by omega) (by omega) rfl (fun n2 hn2 => ?_)
    exact ⟨zOut.n rfl hn2, zfr.rf, hX9⟩
  | true =>
    rw [if_pos rfl]
    obtain ⟨f1, f2, f3⟩ := zHas_y hH
    generalize zAt g y = k at f1 f2 f3 ⊢
    have h0 := hC.2.2 (p k) (hp.1 k (by omega))
    have hA1 := hA k f1
    have hb := hA1.b (hI.b hB f1)
    have h5 := hA1.e5
    have h6 := hI.s6 k f1
    cases hv : zPv z w with
    | false =>
      rw [if_neg (by decide)]
      have hv2 := zPv_n hv
      refine zs_aload_n (pc := 0) dX_matches_0 rfl ?_
      refine zs_iload_n (pc := 1) dX_matches_1 rfl ?_
      refine zcV1_1 (pc := 2) (d2 := d - 1) (s_X_existing_y hl (by omega) hx hC hp hA hI f1 f2 f3) dX_matches_2 kX_127 mdX_existing miX_existing mvX_existing rfl (by first | exact hx | exact h0.1) rfl (Nat.le_of_ble_eq_true rfl) (by omega) (by omega) (by omega) ?_
      refine zs_astore (pc := 5) (ls2 := [_, _, _, _, _]) dX_matches_5 (Nat.le_of_ble_eq_true rfl) rfl ?_
      refine zs_iload_n (pc := 7) dX_matches_7 rfl ?_
      refine zs_iload_n (pc := 8) dX_matches_8 rfl ?_
      refine zcST_2 (pc := 9) (d2 := d - 1) (s_X_requirePrefix_n hl (by omega) hv2) dX_matches_9 kX_161 mdX_requirePrefix msX_requirePrefix rfl (Nat.le_of_ble_eq_true rfl) (by omega) (by omega) (by omega) rfl (fun n2 hn2 => ?_)
      exact ⟨zOut.n rfl hn2, zfr.rf, hX9⟩
    | true =>
      rw [if_pos rfl]
      have hv2 := zPv_y hv
      generalize z.toInt.toNat = dn at hv2 ⊢
      generalize w.toInt.toNat = v at hv2 ⊢
      have hv3 := hv2
      obtain ⟨rfl, rfl, h1, h2⟩ := hv3
      have h3 := z10 h1
      have hm6 : zmany (Q (p k)) dn v ≤ Q (p k) 5 := zcnt_le _ _
      refine zs_aload_n (pc := 0) dX_matches_0 rfl ?_
      refine zs_iload_n (pc := 1) dX_matches_1 rfl ?_
      refine zcV1_1 (pc := 2) (d2 := d - 1) (s_X_existing_y hl (by omega) hx hC hp hA hI f1 f2 f3) dX_matches_2 kX_127 mdX_existing miX_existing mvX_existing rfl (by first | exact hx | exact h0.1) rfl (Nat.le_of_ble_eq_true rfl) (by omega) (by omega) (by omega) ?_
      refine zs_astore (pc := 5) (ls2 := [_, _, _, _, _]) dX_matches_5 (Nat.le_of_ble_eq_true rfl) rfl ?_
      refine zs_iload_n (pc := 7) dX_matches_7 rfl ?_
      refine zs_iload_n (pc := 8) dX_matches_8 rfl ?_
      refine zcS0_2 (pc := 9) (d2 := d - 1) (s_X_requirePrefix_y hl (by omega) hv2) dX_matches_9 kX_161 mdX_requirePrefix msX_requirePrefix rfl (Nat.le_of_ble_eq_true rfl) (by omega) (by omega) (by omega) ?_
      refine zs_aload (pc := 12) dX_matches_12 rfl ?_
      refine zs_iload_n (pc := 14) dX_matches_14 rfl ?_
      refine zs_iload_n (pc := 15) dX_matches_15 rfl ?_
      refine zcV1_2 (pc := 16) (d2 := d - 1) (s_E_countWith hl (by omega) hb h0.1 h0.2 h1 (by omega)) dX_matches_16 kX_165 mdE_countWith miE_countWith mvE_countWith rfl (by first | exact hx | exact h0.1) rfl (Nat.le_of_ble_eq_true rfl) (by omega) (by omega) (by omega) ?_
      rw [hA1.many]
      rw [hA1.many] at hm6
      by_cases hm : 0 < zmany (eg g k) dn v
      · rw [if_pos hm]
        refine zn_if_le (pc := 19) 26 dX_matches_19 rfl (by omega) (fun h9 => absurd h9 (by omega)) (fun _ => ?_)
        refine zs_iconst (pc := 22) dX_matches_22 zi_1 ?_
        refine zs_goto (pc := 23) 27 dX_matches_23 rfl ?_
        exact zs_iret (pc := 27) dX_matches_27 rfl rfl (by omega) (by omega) (⟨zOut.y, zfr.rf, hX9⟩)
      · rw [if_neg hm]
        refine zn_if_le (pc := 19) 26 dX_matches_19 rfl (by omega) (fun _ => ?_) (fun h9 => absurd h9 (by omega))
        refine zs_iconst (pc := 26) dX_matches_26 zi_0 ?_
        exact zs_iret (pc := 27) dX_matches_27 rfl rfl (by omega) (by omega) (⟨zOut.y, zfr.rf, hX9⟩)
theorem s_X_scoreOf {Γ : zG} {l : Launch} (hl : l.stackTraces = false) {d : Nat} (hd : 4 ≤ d) {h : zH} {n : Nat} {B x c np : Nat} {g T : Nat → Nat} {P : Nat → Nat → Nat} {sv : Option (Nat → Nat)} {er fl : Option Nat} {L : List Nat} (hX : XR B h x g P c sv er fl T np L) (hB : B < 2 ^ 20) (y z w : Int32) : zC Γ l d mX_scoreOf [.ref x, .int y, .int z, .int w] h n 1 6 (zXq x h n ["", sNS, sIA] (aScore g y z w) (fun h1 => XR B h1 x g P c sv er fl T np L)) := by
  have hX9 := hX
  obtain ⟨⟨st, hst, hx, htr⟩, ⟨p, Q, hC, hp, hA⟩, hI, -⟩ := hX
  have i0 := hI.1
  have e1 : zFg g 1 = g 0 := rfl
  unfold aScore
  refine zC_of (ls := [some (.ref x), some (.int y), some (.int z), some (.int w), none]) hl (by decide +kernel) rfl (Nat.le_of_ble_eq_true rfl) rfl ?_
  cases hH : zHas g y with
  | false =>
    rw [if_neg (by decide)]
    refine zs_aload_n (pc := 0) dX_scoreOf_0 rfl ?_
    refine zs_iload_n (pc := 1) dX_scoreOf_1 rfl ?_
    refine zcVT_1 (pc := 2) (d2 := d - 1) (s_X_existing_n hl (by omega) hx hC hp hA hI hH) dX_scoreOf_2 kX_127 mdX_existing miX_existing mvX_existing rfl (by first | exact hx | exact h0.1) rfl (Nat.le_of_ble_eq_true rfl) (by omega) (by omega) (by omega) rfl (fun n2 hn2 => ?_)
    exact ⟨zOut.n rfl hn2, zfr.rf, hX9⟩
  | true =>
    rw [if_pos rfl]
    obtain ⟨f1, f2, f3⟩ := zHas_y hH
    generalize zAt g y = k at f1 f2 f3 ⊢
    have h0 := hC.2.2 (p k) (hp.1 k (by omega))
    have hA1 := hA k f1
    have hb := hA1.b (hI.b hB f1)
    have h5 := hA1.e5
    have h6 := hI.s6 k f1
    cases hv : zPv z w with
    | false =>
      rw [if_neg (by decide)]
      have hv2 := zPv_n hv
      refine zs_aload_n (pc := 0) dX_scoreOf_0 rfl ?_
      refine zs_iload_n (pc := 1) dX_scoreOf_1 rfl ?_
      refine zcV1_1 (pc := 2) (d2 := d - 1) (s_X_existing_y hl (by omega) hx hC hp hA hI f1 f2 f3) dX_scoreOf_2 kX_127 mdX_existing miX_existing mvX_existing rfl (by first | exact hx | exact h0.1) rfl (Nat.le_of_ble_eq_true rfl) (by omega) (by omega) (by omega) ?_
      refine zs_astore (pc := 5) (ls2 := [_, _, _, _, _]) dX_scoreOf_5 (Nat.le_of_ble_eq_true rfl) rfl ?_
      refine zs_iload_n (pc := 7) dX_scoreOf_7 rfl ?_
      refine zs_iload_n (pc := 8) dX_scoreOf_8 rfl ?_
      refine zcST_2 (pc := 9) (d2 := d - 1) (s_X_requirePrefix_n hl (by omega) hv2) dX_scoreOf_9 kX_161 mdX_requirePrefix msX_requirePrefix rfl (Nat.le_of_ble_eq_true rfl) (by omega) (by omega) (by omega) rfl (fun n2 hn2 => ?_)
      exact ⟨zOut.n rfl hn2, zfr.rf, hX9⟩
    | true =>
      rw [if_pos rfl]
      have hv2 := zPv_y hv
      generalize z.toInt.toNat = dn at hv2 ⊢
      generalize w.toInt.toNat = v at hv2 ⊢
      have hv3 := hv2
      obtain ⟨rfl, rfl, h1, h2⟩ := hv3
      have h3 := z10 h1
      refine zs_aload_n (pc := 0) dX_scoreOf_0 rfl ?_
      refine zs_iload_n (pc := 1) dX_scoreOf_1 rfl ?_
      refine zcV1_1 (pc := 2) (d2 := d - 1) (s_X_existing_y hl (by omega) hx hC hp hA hI f1 f2 f3) dX_scoreOf_2 kX_127 mdX_existing miX_existing mvX_existing rfl (by first | exact hx | exact h0.1) rfl (Nat.le_of_ble_eq_true rfl) (by omega) (by omega) (by omega) ?_
      refine zs_astore (pc := 5) (ls2 := [_, _, _, _, _]) dX_scoreOf_5 (Nat.le_of_ble_eq_true rfl) rfl ?_
      refine zs_iload_n (pc := 7) dX_scoreOf_7 rfl ?_
      refine zs_iload_n (pc := 8) dX_scoreOf_8 rfl ?_
      refine zcS0_2 (pc := 9) (d2 := d - 1) (s_X_requirePrefix_y hl (by omega) hv2) dX_scoreOf_9 kX_161 mdX_requirePrefix msX_requirePrefix rfl (Nat.le_of_ble_eq_true rfl) (by omega) (by omega) (by omega) ?_
      refine zs_aload (pc := 12) dX_scoreOf_12 rfl ?_
      refine zs_iload_n (pc := 14) dX_scoreOf_14 rfl ?_
      refine zs_iload_n (pc := 15) dX_scoreOf_15 rfl ?_
      refine zcV1_2 (pc := 16) (d2 := d - 1) (s_E_score hl (by omega) hb h0.1 h0.2 h1 (by omega)) dX_scoreOf_16 kX_196 mdE_score miE_score mvE_score rfl (by first | exact hx | exact h0.1) rfl (Nat.le_of_ble_eq_true rfl) (by omega) (by omega) (by omega) ?_
      rw [hA1.score]
      exact zs_iret (pc := 19) dX_scoreOf_19 rfl rfl (by omega) (by omega) (⟨zOut.y, zfr.rf, hX9⟩)
theorem s_X_sharedCodes {Γ : zG} {l : Launch} (hl : l.stackTraces = false) {d : Nat} (hd : 3 ≤ d) {h : zH} {n : Nat} {B x c np : Nat} {g T : Nat → Nat} {P : Nat → Nat → Nat} {sv : Option (Nat → Nat)} {er fl : Option Nat} {L : List Nat} (hX : XR B h x g P c sv er fl T np L) (hB : B < 2 ^ 20) (y z : Int32) : zC Γ l d mX_sharedCodes [.ref x, .int y, .int z] h n 1 6 (zXq x h n ["", sNS] (aShare g y z) (fun h1 => XR B h1 x g P c sv er fl T np L)) := by
  have hX9 := hX
  obtain ⟨⟨st, hst, hx, htr⟩, ⟨p, Q, hC, hp, hA⟩, hI, -⟩ := hX
  have i0 := hI.1
  have e1 : zFg g 1 = g 0 := rfl
  unfold aShare
  refine zC_of (ls := [some (.ref x), some (.int y), some (.int z)]) hl (by decide +kernel) rfl (Nat.le_of_ble_eq_true rfl) rfl ?_
  cases hH : zHas g y with
  | false =>
    rw [if_neg (by rintro ⟨q, -⟩; cases q)]
    refine zs_aload_n (pc := 0) dX_sharedCodes_0 rfl ?_
    refine zs_iload_n (pc := 1) dX_sharedCodes_1 rfl ?_
    refine zcVT_1 (pc := 2) (d2 := d - 1) (s_X_existing_n hl (by omega) hx hC hp hA hI hH) dX_sharedCodes_2 kX_127 mdX_existing miX_existing mvX_existing rfl (by first | exact hx | exact h0.1) rfl (Nat.le_of_ble_eq_true rfl) (by omega) (by omega) (by omega) rfl (fun n2 hn2 => ?_)
    exact ⟨zOut.n rfl hn2, zfr.rf, hX9⟩
  | true =>
    obtain ⟨f1, f2, f3⟩ := zHas_y hH
    cases hH2 : zHas g z with
    | false =>
      rw [if_neg (by rintro ⟨-, q⟩; cases q)]
      refine zs_aload_n (pc := 0) dX_sharedCodes_0 rfl ?_
      refine zs_iload_n (pc := 1) dX_sharedCodes_1 rfl ?_
      refine zcV1_1 (pc := 2) (d2 := d - 1) (s_X_existing_y hl (by omega) hx hC hp hA hI f1 f2 f3) dX_sharedCodes_2 kX_127 mdX_existing miX_existing mvX_existing rfl (by first | exact hx | exact h0.1) rfl (Nat.le_of_ble_eq_true rfl) (by omega) (by omega) (by omega) ?_
      refine zs_aload_n (pc := 5) dX_sharedCodes_5 rfl ?_
      refine zs_iload_n (pc := 6) dX_sharedCodes_6 rfl ?_
      refine zcVT_1 (pc := 7) (d2 := d - 1) (s_X_existing_n hl (by omega) hx hC hp hA hI hH2) dX_sharedCodes_7 kX_127 mdX_existing miX_existing mvX_existing rfl (by first | exact hx | exact h0.1) rfl (Nat.le_of_ble_eq_true rfl) (by omega) (by omega) (by omega) rfl (fun n2 hn2 => ?_)
      exact ⟨zOut.n rfl hn2, zfr.rf, hX9⟩
    | true =>
      rw [if_pos ⟨rfl, rfl⟩]
      obtain ⟨k1, k2, k3⟩ := zHas_y hH2
      generalize zAt g y = k at f1 f2 f3 ⊢
      generalize zAt g z = t at k1 k2 k3 ⊢
      have h0 := hC.2.2 (p k) (hp.1 k (by omega))
      have h9 := hC.2.2 (p t) (hp.1 t (by omega))
      have hA1 := hA k f1
      have hA2 := hA t k1
      refine zs_aload_n (pc := 0) dX_sharedCodes_0 rfl ?_
      refine zs_iload_n (pc := 1) dX_sharedCodes_1 rfl ?_
      refine zcV1_1 (pc := 2) (d2 := d - 1) (s_X_existing_y hl (by omega) hx hC hp hA hI f1 f2 f3) dX_sharedCodes_2 kX_127 mdX_existing miX_existing mvX_existing rfl (by first | exact hx | exact h0.1) rfl (Nat.le_of_ble_eq_true rfl) (by omega) (by omega) (by omega) ?_
      refine zs_aload_n (pc := 5) dX_sharedCodes_5 rfl ?_
      refine zs_iload_n (pc := 6) dX_sharedCodes_6 rfl ?_
      refine zcV1_1 (pc := 7) (d2 := d - 1) (s_X_existing_y hl (by omega) hx hC hp hA hI k1 k2 k3) dX_sharedCodes_7 kX_127 mdX_existing miX_existing mvX_existing rfl (by first | exact hx | exact h0.1) rfl (Nat.le_of_ble_eq_true rfl) (by omega) (by omega) (by omega) ?_
      refine zcV1_1 (pc := 10) (d2 := d - 1) (s_E_countShared hl (by omega) (hA1.b (hI.b hB f1)) h0.1 h0.2 (hA2.b (hI.b hB k1)) h9.1 h9.2) dX_sharedCodes_10 kX_233 mdE_countShared miE_countShared mvE_countShared rfl (by first | exact hx | exact h0.1) rfl (Nat.le_of_ble_eq_true rfl) (by omega) (by omega) (by omega) ?_
      rw [hA1.share hA2]
      exact zs_iret (pc := 13) dX_sharedCodes_13 rfl rfl (by omega) (by omega) (⟨zOut.y, zfr.rf, hX9⟩)
theorem lp_X_entriesIn {Γ : zG} {l : Launch} (hl : l.stackTraces = false) {d : Nat} {h : zH} {n : Nat} {x st s B : Nat} {sv : Bool} {er fl : Option Nat} {g : Nat → Nat} {p : Nat → Nat} {Q : Nat → Nat → Nat} {FN : List Frame → Array Value → State → State → Prop} (hx : h x = some (zXo x st sv er fl)) (hC : CH h (x + 1) p Q (zFg g)) (hp : PM p) (hA : ∀ j, j < g 0 → zAg (Q (p j)) (eg g j)) (hI : IG B g) (hB : B < 2 ^ 20) (hs : s < 2 ^ 31) (K : Z Γ l mX_entriesIn d 1 6 FN 65 [some (.ref x), some (.int (nI s)), some (.int (nI (zcnt (fun k => eg g k 4 == s) (g 0)))), some (.int (nI (g 0)))] [] h n 0 0) : ∀ i j, i + j = g 0 → Z Γ l mX_entriesIn d 1 6 FN 29 [some (.ref x), some (.int (nI s)), some (.int (nI (zcnt (fun k => eg g k 4 == s) j))), some (.int (nI j))] [] h n 0 0 := by
  have i0 := hI.1
  have e1 : zFg g 1 = g 0 := rfl
  intro i
  induction i with
  | zero =>
    intro j hj
    obtain rfl : j = g 0 := by omega
    refine zs_iload_n (pc := 29) dX_entriesIn_29 rfl ?_
    refine zs_aload_n (pc := 30) dX_entriesIn_30 rfl ?_
    refine zs_get (pc := 31) dX_entriesIn_31 fX_12 (by first | exact hx | exact hC.1 | exact hC.2.1 | exact (hC.2.2 _ (hp.1 _ (by omega))).1) (by rfl) ?_
    refine zs_get (pc := 34) dX_entriesIn_34 fX_115 (by first | exact hx | exact hC.1 | exact hC.2.1 | exact (hC.2.2 _ (hp.1 _ (by omega))).1) (by rfl) ?_
    refine zn_icmp_ge (pc := 37) 65 dX_entriesIn_37 rfl (by omega) (by omega) (fun _ => ?_) (fun h9 => absurd h9 (by omega))
    exact K
  | succ i ih =>
    intro j hj
    have hz := ih (j + 1) (by omega)
    have hj4 := hA j (by omega) 4 (by omega)
    have hb4 := (hI.b hB (j := j) (by omega)).2.2.2.2.1
    by_cases e : eg g j 4 = s
    · rw [zcnt_t (p := fun k => eg g k 4 == s) (by simpa using e)] at hz
      refine zs_iload_n (pc := 29) dX_entriesIn_29 rfl ?_
      refine zs_aload_n (pc := 30) dX_entriesIn_30 rfl ?_
      refine zs_get (pc := 31) dX_entriesIn_31 fX_12 (by first | exact hx | exact hC.1 | exact hC.2.1 | exact (hC.2.2 _ (hp.1 _ (by omega))).1) (by rfl) ?_
      refine zs_get (pc := 34) dX_entriesIn_34 fX_115 (by first | exact hx | exact hC.1 | exact hC.2.1 | exact (hC.2.2 _ (hp.1 _ (by omega))).1) (by rfl) ?_
      refine zn_icmp_ge (pc := 37) 65 dX_entriesIn_37 rfl (by omega) (by omega) (fun h9 => absurd h9 (by omega)) (fun _ => ?_)
      refine zs_aload_n (pc := 40) dX_entriesIn_40 rfl ?_
      refine zs_get (pc := 41) dX_entriesIn_41 fX_12 (by first | exact hx | exact hC.1 | exact hC.2.1 | exact (hC.2.2 _ (hp.1 _ (by omega))).1) (by rfl) ?_
      refine zs_get (pc := 44) dX_entriesIn_44 fX_120 (by first | exact hx | exact hC.1 | exact hC.2.1 | exact (hC.2.2 _ (hp.1 _ (by omega))).1) (by rfl) ?_
      refine zs_iload_n (pc := 47) dX_entriesIn_47 rfl ?_
      refine zn_aald (pc := 48) (Or.inl rfl) dX_entriesIn_48 (by first | exact hx | exact hC.1 | exact hC.2.1 | exact (hC.2.2 _ (hp.1 _ (by omega))).1) (by omega) (by decide) (by rfl) ?_
      refine zs_get (pc := 49) dX_entriesIn_49 fX_144 (by first | exact hx | exact hC.1 | exact hC.2.1 | exact (hC.2.2 _ (hp.1 _ (by omega))).1) (by rfl) ?_
      refine zs_iload_n (pc := 52) dX_entriesIn_52 rfl ?_
      refine zn_icmp_ne (pc := 53) 59 dX_entriesIn_53 rfl (by omega) (by omega) (fun h9 => absurd h9 (fun q => q (by rw [hj4]; exact e))) (fun _ => ?_)
      refine zn_iinc (pc := 56) (ls2 := [_, _, _, _]) dX_entriesIn_56 rfl (Nat.le_of_ble_eq_true rfl) rfl ?_
      refine zn_iinc (pc := 59) (ls2 := [_, _, _, _]) dX_entriesIn_59 rfl (Nat.le_of_ble_eq_true rfl) rfl ?_
      refine zs_goto (pc := 62) 29 dX_entriesIn_62 rfl ?_
      exact hz
    · rw [zcnt_f (p := fun k => eg g k 4 == s) (by simpa using e)] at hz
      refine zs_iload_n (pc := 29) dX_entriesIn_29 rfl ?_
      refine zs_aload_n (pc := 30) dX_entriesIn_30 rfl ?_
      refine zs_get (pc := 31) dX_entriesIn_31 fX_12 (by first | exact hx | exact hC.1 | exact hC.2.1 | exact (hC.2.2 _ (hp.1 _ (by omega))).1) (by rfl) ?_
      refine zs_get (pc := 34) dX_entriesIn_34 fX_115 (by first | exact hx | exact hC.1 | exact hC.2.1 | exact (hC.2.2 _ (hp.1 _ (by omega))).1) (by rfl) ?_
      refine zn_icmp_ge (pc := 37) 65 dX_entriesIn_37 rfl (by omega) (by omega) (fun h9 => absurd h9 (by omega)) (fun _ => ?_)
      refine zs_aload_n (pc := 40) dX_entriesIn_40 rfl ?_
      refine zs_get (pc := 41) dX_entriesIn_41 fX_12 (by first | exact hx | exact hC.1 | exact hC.2.1 | exact (hC.2.2 _ (hp.1 _ (by omega))).1) (by rfl) ?_
      refine zs_get (pc := 44) dX_entriesIn_44 fX_120 (by first | exact hx | exact hC.1 | exact hC.2.1 | exact (hC.2.2 _ (hp.1 _ (by omega))).1) (by rfl) ?_
      refine zs_iload_n (pc := 47) dX_entriesIn_47 rfl ?_
      refine zn_aald (pc := 48) (Or.inl rfl) dX_entriesIn_48 (by first | exact hx | exact hC.1 | exact hC.2.1 | exact (hC.2.2 _ (hp.1 _ (by omega))).1) (by omega) (by decide) (by rfl) ?_
      refine zs_get (pc := 49) dX_entriesIn_49 fX_144 (by first | exact hx | exact hC.1 | exact hC.2.1 | exact (hC.2.2 _ (hp.1 _ (by omega))).1) (by rfl) ?_
      refine zs_iload_n (pc := 52) dX_entriesIn_52 rfl ?_
      refine zn_icmp_ne (pc := 53) 59 dX_entriesIn_53 rfl (by omega) (by omega) (fun _ => ?_) (fun h9 => absurd h9 (by rw [hj4]; exact e))
      refine zn_iinc (pc := 59) (ls2 := [_, _, _, _]) dX_entriesIn_59 rfl (Nat.le_of_ble_eq_true rfl) rfl ?_
      refine zs_goto (pc := 62) 29 dX_entriesIn_62 rfl ?_
      exact hz
theorem s_X_entriesIn {Γ : zG} {l : Launch} (hl : l.stackTraces = false) {d : Nat} {h : zH} {n : Nat} {B x c np : Nat} {g T : Nat → Nat} {P : Nat → Nat → Nat} {sv : Option (Nat → Nat)} {er fl : Option Nat} {L : List Nat} (hX : XR B h x g P c sv er fl T np L) (hB : B < 2 ^ 20) (y : Int32) : zC Γ l d mX_entriesIn [.ref x, .int y] h n 1 6 (zXq x h n ["", sIB] (aIn g y) (fun h1 => XR B h1 x g P c sv er fl T np L)) := by
  have hX9 := hX
  obtain ⟨⟨st, hst, hx, htr⟩, ⟨p, Q, hC, hp, hA⟩, hI, -⟩ := hX
  have i0 := hI.1
  have e1 : zFg g 1 = g 0 := rfl
  have i3 := hI.2.2.2.1
  have e3 : zFg g 3 = g 2 := rfl
  unfold aIn
  refine zC_of (ls := [some (.ref x), some (.int y), none, none]) hl (by decide +kernel) rfl (Nat.le_of_ble_eq_true rfl) rfl ?_
  cases hv : zIx y (g 2) with
  | true =>
    rw [if_pos rfl]
    obtain ⟨v1, v2⟩ := zIx_y hv
    generalize y.toInt.toNat = s at v1 v2 ⊢
    subst v2
    refine zs_iload_n (pc := 0) dX_entriesIn_0 rfl ?_
    refine zs_if_lt (pc := 1) 15 dX_entriesIn_1 rfl (fun h9 => absurd h9 (nI_pos (by omega))) (fun _ => ?_)
    refine zs_iload_n (pc := 4) dX_entriesIn_4 rfl ?_
    refine zs_aload_n (pc := 5) dX_entriesIn_5 rfl ?_
    refine zs_get (pc := 6) dX_entriesIn_6 fX_12 (by first | exact hx | exact hC.1 | exact hC.2.1 | exact (hC.2.2 _ (hp.1 _ (by omega))).1) (by rfl) ?_
    refine zs_get (pc := 9) dX_entriesIn_9 fX_172 (by first | exact hx | exact hC.1 | exact hC.2.1 | exact (hC.2.2 _ (hp.1 _ (by omega))).1) (by rfl) ?_
    refine zn_icmp_lt (pc := 12) 25 dX_entriesIn_12 rfl (by omega) (by omega) (fun _ => ?_) (fun h9 => absurd h9 (fun q => Nat.not_le.mpr v1 q))
    refine zs_iconst (pc := 25) dX_entriesIn_25 zi_0 ?_
    refine zs_istore_n (pc := 26) (ls2 := [_, _, _, _]) dX_entriesIn_26 (Nat.le_of_ble_eq_true rfl) rfl ?_
    refine zs_iconst (pc := 27) dX_entriesIn_27 zi_0 ?_
    refine zs_istore_n (pc := 28) (ls2 := [_, _, _, _]) dX_entriesIn_28 (Nat.le_of_ble_eq_true rfl) rfl ?_
    refine lp_X_entriesIn (s := s) hl hx hC hp hA hI hB (by omega) ?_ (g 0) 0 rfl
    refine zs_iload_n (pc := 65) dX_entriesIn_65 rfl ?_
    exact zs_iret (pc := 66) dX_entriesIn_66 rfl rfl (by omega) (by omega) (⟨zOut.y, zfr.rf, hX9⟩)
  | false =>
    rw [if_neg (by decide)]
    refine zs_iload_n (pc := 0) dX_entriesIn_0 rfl ?_
    refine zs_if_lt (pc := 1) 15 dX_entriesIn_1 rfl (fun hb => ?_) (fun hb => ?_)
    · exact zs_throw (pc := 15) (text := "no such segment") thIB (by decide) rfl dX_entriesIn_15 dX_entriesIn_18 dX_entriesIn_19 dX_entriesIn_21 dX_entriesIn_24 (Nat.le_of_ble_eq_true rfl) (by omega) (by omega) (fun n2 hn2 => ⟨zOut.n rfl hn2, zfr.rf, hX9⟩)
    · refine zs_iload_n (pc := 4) dX_entriesIn_4 rfl ?_
      refine zs_aload_n (pc := 5) dX_entriesIn_5 rfl ?_
      refine zs_get (pc := 6) dX_entriesIn_6 fX_12 (by first | exact hx | exact hC.1 | exact hC.2.1 | exact (hC.2.2 _ (hp.1 _ (by omega))).1) (by rfl) ?_
      refine zs_get (pc := 9) dX_entriesIn_9 fX_172 (by first | exact hx | exact hC.1 | exact hC.2.1 | exact (hC.2.2 _ (hp.1 _ (by omega))).1) (by rfl) ?_
      refine zs_icmp_lt (pc := 12) 25 dX_entriesIn_12 rfl (fun h9 => absurd h9 (zIx_n hv hb (show g 2 < 2 ^ 31 by omega))) (fun _ => ?_)
      exact zs_throw (pc := 15) (text := "no such segment") thIB (by decide) rfl dX_entriesIn_15 dX_entriesIn_18 dX_entriesIn_19 dX_entriesIn_21 dX_entriesIn_24 (Nat.le_of_ble_eq_true rfl) (by omega) (by omega) (fun n2 hn2 => ⟨zOut.n rfl hn2, zfr.rf, hX9⟩)

