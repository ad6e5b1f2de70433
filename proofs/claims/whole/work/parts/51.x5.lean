/-! the whole object: questions that the trie answers -/
def aRes (g : Nat → Nat) (y z : Int32) : Nat × Int32 := if zPv y z = true then (0, nI (zres g y.toInt.toNat z.toInt.toNat)) else (1, -1)
def aCods (g : Nat → Nat) (y z : Int32) : Nat × Int32 := if zPv y z = true then (0, nI (zcod g y.toInt.toNat z.toInt.toNat)) else (1, -1)
def aNext (g : Nat → Nat) (y z : Int32) : Nat × Int32 := if zPv y z = true ∧ y.toInt.toNat < 3 then (0, nI (zbr g y.toInt.toNat z.toInt.toNat)) else (1, -1)
def aDep (g : Nat → Nat) (y : Int32) : Nat × Int32 := if zV y 0 999 = true then (0, nI (zdep g y.toInt.toNat)) else (1, -1)
def aEnt (g : Nat → Nat) (y : Int32) : Nat × Int32 := if zV y 0 999 = true then (0, nI (zres g 3 y.toInt.toNat)) else (1, -1)
def aCom (g : Nat → Nat) : Nat × Int32 := if (zcmF (fun c => zres g 3 c) 1000).2 = 0 then (1, -1) else (0, nI ((zcmF (fun c => zres g 3 c) 1000).2 - 1))
/-- only the first cell and those from the trie on have changed -/
def zfx (x : Nat) (h h1 : zH) : Prop := ∀ q, ¬ (q = x ∨ (x + 465 ≤ q ∧ q < x + 481)) → h1 q = h q
theorem zfx.rf {x : Nat} {h : zH} : zfx x h h := fun _ _ => rfl
theorem zfx.tr {x : Nat} {h h1 h2 : zH} (a : zfx x h h1) (b : zfx x h1 h2) : zfx x h h2 := fun q hq => (b q hq).trans (a q hq)
theorem zfx.z {x : Nat} {h h1 : zH} (a : zfx x h h1) : zfr x 481 h h1 := fun q hq => a q (by omega)
theorem s_X_freshTrie {Γ : zG} {l : Launch} (hl : l.stackTraces = false) {d : Nat} (hd : 3 ≤ d) {h : zH} {n : Nat} {B x c np : Nat} {g T : Nat → Nat} {P : Nat → Nat → Nat} {sv : Option (Nat → Nat)} {er fl : Option Nat} {L : List Nat} (hX : XR B h x g P c sv er fl T np L) (hB : B < 2 ^ 20) : zC Γ l d mX_freshTrie [.ref x] h n 0 0 (fun o h1 n1 => o = .inl (some (.ref (x + 465))) ∧ n1 = n ∧ zfx x h h1 ∧ XR B h1 x g P c sv er fl T np L ∧ TH h1 (x + 465) (zEj g (g 0) 0) (zCj g (g 0) 0)) := by
  have hX9 := hX; obtain ⟨⟨st, hst, hx, htr⟩, hR, hI, hsv, hH, hrk, hpg, hn60, hTc, hL, hag⟩ := hX; have i0 := hI.1
  obtain ⟨E, C, hTr, hE⟩ := id htr
  have hst2 : st = 0 ∨ st = 1 := by omega
  rcases hst2 with rfl | rfl
  · obtain ⟨rfl, rfl⟩ := hE rfl
    refine zC_of (ls := [some (.ref x)]) hl (by decide +kernel) rfl (Nat.le_of_ble_eq_true rfl) rfl ?_
    refine zs_aload_n (pc := 0) dX_freshTrie_0 rfl ?_
    refine zs_get (pc := 1) dX_freshTrie_1 fX_61 (by first | exact hx | exact hxt | exact zu_s) (by rfl) ?_
    refine zn_if_eq (pc := 4) 23 dX_freshTrie_4 rfl (by omega) (fun _ => ?_) (fun h9 => absurd h9 (by decide))
    refine zs_aload_n (pc := 23) dX_freshTrie_23 rfl ?_
    refine zs_get (pc := 24) dX_freshTrie_24 fX_29 (by first | exact hx | exact hxt | exact zu_s) (by rfl) ?_
    exact zs_aret (pc := 27) dX_freshTrie_27 rfl (by first | exact Or.inl rfl | exact Or.inr ⟨_, rfl⟩) (by omega) (by omega) (⟨rfl, rfl, zfx.rf, hX9, hTr⟩)
  · have hT2 := yTH.T (E := zEj g (g 0) 0) (C := zCj g (g 0) 0) hTr.1
    have hxt : yTH h (x + 465) (zEj g (g 0) 0) (zCj g (g 0) 0) x = some (zXo x 1 sv.isSome er fl) := by rw [yTH.fr _ (by omega)]; exact hx
    have hkz : ∀ q, q ≠ x → ¬ (x + 465 ≤ q ∧ q < x + 468) → zu (yTH h (x + 465) (zEj g (g 0) 0) (zCj g (g 0) 0)) x (zXo x 0 sv.isSome er fl) q = h q := fun q q0 q1 => by rw [zu_n q0]; exact yTH.fr q (by omega)
    have hT3 : TH (zu (yTH h (x + 465) (zEj g (g 0) 0) (zCj g (g 0) 0)) x (zXo x 0 sv.isSome er fl)) (x + 465) (zEj g (g 0) 0) (zCj g (g 0) 0) := hT2.sm (fun q q1 q2 => zu_n (by omega))
    refine zC_of (ls := [some (.ref x)]) hl (by decide +kernel) rfl (Nat.le_of_ble_eq_true rfl) rfl ?_
    refine zs_aload_n (pc := 0) dX_freshTrie_0 rfl ?_
    refine zs_get (pc := 1) dX_freshTrie_1 fX_61 (by first | exact hx | exact hxt | exact zu_s) (by rfl) ?_
    refine zn_if_eq (pc := 4) 23 dX_freshTrie_4 rfl (by omega) (fun h9 => absurd h9 (by decide)) (fun _ => ?_)
    refine zs_aload_n (pc := 7) dX_freshTrie_7 rfl ?_
    refine zs_get (pc := 8) dX_freshTrie_8 fX_29 (by first | exact hx | exact hxt | exact zu_s) (by rfl) ?_
    refine zs_aload_n (pc := 11) dX_freshTrie_11 rfl ?_
    refine zs_get (pc := 12) dX_freshTrie_12 fX_12 (by first | exact hx | exact hxt | exact zu_s) (by rfl) ?_
    refine zcV0_1 (pc := 15) (d2 := d - 1) (s_T_build hl (by omega) hTr hR hI (by omega)) dX_freshTrie_15 kX_239 mdT_build miT_build mvT_build rfl (by exact hTr.1) rfl (Nat.le_of_ble_eq_true rfl) (by omega) (by omega) (by omega) ?_
    refine zs_aload_n (pc := 18) dX_freshTrie_18 rfl ?_
    refine zs_iconst (pc := 19) dX_freshTrie_19 zi_0 ?_
    refine zs_put (pc := 20) (fs2 := [_, _, _, _, _, _, _, _, _, _, _, _]) dX_freshTrie_20 fX_61 (by first | exact hx | exact hxt | exact zu_s) (by rfl) (by rfl) (by exact Nat.le_of_ble_eq_true rfl) (by rfl) ?_
    refine zs_aload_n (pc := 23) dX_freshTrie_23 rfl ?_
    refine zs_get (pc := 24) dX_freshTrie_24 fX_29 (by first | exact hx | exact hxt | exact zu_s) (by rfl) ?_
    exact zs_aret (pc := 27) dX_freshTrie_27 rfl (by first | exact Or.inl rfl | exact Or.inr ⟨_, rfl⟩) (by omega) (by omega) (⟨rfl, rfl, fun q hq => hkz q (by omega) (by omega), ⟨⟨0, by decide, zu_s, _, _, hT3, fun _ => ⟨rfl, rfl⟩⟩, hR.sm (fun q q1 q2 => hkz q (by omega) (by omega)), hI, hsv.sm (fun q q1 q2 => hkz q (by omega) (by omega)), hH.sm (fun q q1 q2 => hkz q (by omega) (by omega)), hrk.sm (fun q q1 q2 => hkz q (by omega) (by omega)), hpg.sm (fun q q1 q2 => hkz q (by omega) (by omega)), hn60, hTc, hL.sm (fun q q1 q2 => hkz q (by omega) (by omega)), hag.sm (fun q q1 q2 => hkz q (by omega) (by omega))⟩, hT3⟩)
theorem s_X_resultCount {Γ : zG} {l : Launch} (hl : l.stackTraces = false) {d : Nat} (hd : 4 ≤ d) {h : zH} {n : Nat} {B x c np : Nat} {g T : Nat → Nat} {P : Nat → Nat → Nat} {sv : Option (Nat → Nat)} {er fl : Option Nat} {L : List Nat} (hX : XR B h x g P c sv er fl T np L) (hB : B < 2 ^ 20) (y z : Int32) : zC Γ l d mX_resultCount [.ref x, .int y, .int z] h n 1 6 (zXq x h n ["", sIA] (aRes g y z) (fun h1 => XR B h1 x g P c sv er fl T np L)) := by
  have hX9 := hX; obtain ⟨⟨st, hst, hx, htr⟩, hR, hI, hsv, hH, hrk, hpg, hn60, hTc, hL, hag⟩ := hX; have i0 := hI.1
  unfold aRes
  refine zC_of (ls := [some (.ref x), some (.int y), some (.int z)]) hl (by decide +kernel) rfl (Nat.le_of_ble_eq_true rfl) rfl ?_
  cases hv : zPv y z with
  | false =>
    rw [if_neg (by decide)]
    refine zs_iload_n (pc := 0) dX_resultCount_0 rfl ?_
    refine zs_iload_n (pc := 1) dX_resultCount_1 rfl ?_
    refine zcST_2 (pc := 2) (d2 := d - 1) (s_X_requirePrefix_n hl (by omega) (zPv_n hv)) dX_resultCount_2 kX_161 mdX_requirePrefix msX_requirePrefix rfl (Nat.le_of_ble_eq_true rfl) (by omega) (by omega) (by omega) rfl (fun n2 hn2 => ?_)
    exact ⟨zOut.n rfl hn2, zfr.rf, hX9⟩
  | true =>
    rw [if_pos rfl]
    have hv2 := zPv_y hv
    generalize y.toInt.toNat = dn at hv2 ⊢
    generalize z.toInt.toNat = v at hv2 ⊢
    have hv3 := hv2
    obtain ⟨rfl, rfl, q1, q2⟩ := hv3
    refine zs_iload_n (pc := 0) dX_resultCount_0 rfl ?_
    refine zs_iload_n (pc := 1) dX_resultCount_1 rfl ?_
    refine zcS0_2 (pc := 2) (d2 := d - 1) (s_X_requirePrefix_y hl (by omega) hv2) dX_resultCount_2 kX_161 mdX_requirePrefix msX_requirePrefix rfl (Nat.le_of_ble_eq_true rfl) (by omega) (by omega) (by omega) ?_
    refine zs_aload_n (pc := 5) dX_resultCount_5 rfl ?_
    refine zcVQ_0 (pc := 6) (d2 := d - 1) (s_X_freshTrie hl (by omega) hX9 hB) dX_resultCount_6 kX_175 mdX_freshTrie miX_freshTrie mvX_freshTrie rfl (by first | exact hx | exact hT9.1) rfl (Nat.le_of_ble_eq_true rfl) (by omega) (by omega) (by omega) (fun v h1 n1 hq => ?_) (fun E h1 n1 hq => absurd hq.1 (by intro q; cases q))
    obtain ⟨hv9, rfl, hf9, hX8, hT9⟩ := hq
    obtain rfl := Sum.inl.inj hv9
    refine zs_iload_n (pc := 9) dX_resultCount_9 rfl ?_
    refine zs_iload_n (pc := 10) dX_resultCount_10 rfl ?_
    refine zcS1_2 (pc := 11) (d2 := d - 1) (s_T_nodeOf hl (by omega) q1 q2) dX_resultCount_11 kX_179 mdT_nodeOf msT_nodeOf rfl (Nat.le_of_ble_eq_true rfl) (by omega) (by omega) (by omega) ?_
    refine zcV1_1 (pc := 14) (d2 := d - 1) (s_T_entriesAt hl hT9 (ztn_lt q1 q2)) dX_resultCount_14 kX_182 mdT_entriesAt miT_entriesAt mvT_entriesAt rfl (by first | exact hx | exact hT9.1) rfl (Nat.le_of_ble_eq_true rfl) (by omega) (by omega) (by omega) ?_
    rw [zE_res hI q1 q2]
    exact zs_iret (pc := 17) dX_resultCount_17 rfl rfl (by omega) (by omega) (⟨zOut.y, hf9.z, hX8⟩)
theorem s_X_codesWith {Γ : zG} {l : Launch} (hl : l.stackTraces = false) {d : Nat} (hd : 4 ≤ d) {h : zH} {n : Nat} {B x c np : Nat} {g T : Nat → Nat} {P : Nat → Nat → Nat} {sv : Option (Nat → Nat)} {er fl : Option Nat} {L : List Nat} (hX : XR B h x g P c sv er fl T np L) (hB : B < 2 ^ 20) (y z : Int32) : zC Γ l d mX_codesWith [.ref x, .int y, .int z] h n 1 6 (zXq x h n ["", sIA] (aCods g y z) (fun h1 => XR B h1 x g P c sv er fl T np L)) := by
  have hX9 := hX; obtain ⟨⟨st, hst, hx, htr⟩, hR, hI, hsv, hH, hrk, hpg, hn60, hTc, hL, hag⟩ := hX; have i0 := hI.1
  unfold aCods
  refine zC_of (ls := [some (.ref x), some (.int y), some (.int z)]) hl (by decide +kernel) rfl (Nat.le_of_ble_eq_true rfl) rfl ?_
  cases hv : zPv y z with
  | false =>
    rw [if_neg (by decide)]
    refine zs_iload_n (pc := 0) dX_codesWith_0 rfl ?_
    refine zs_iload_n (pc := 1) dX_codesWith_1 rfl ?_
    refine zcST_2 (pc := 2) (d2 := d - 1) (s_X_requirePrefix_n hl (by omega) (zPv_n hv)) dX_codesWith_2 kX_161 mdX_requirePrefix msX_requirePrefix rfl (Nat.le_of_ble_eq_true rfl) (by omega) (by omega) (by omega) rfl (fun n2 hn2 => ?_)
    exact ⟨zOut.n rfl hn2, zfr.rf, hX9⟩
  | true =>
    rw [if_pos rfl]
    have hv2 := zPv_y hv
    generalize y.toInt.toNat = dn at hv2 ⊢
    generalize z.toInt.toNat = v at hv2 ⊢
    have hv3 := hv2
    obtain ⟨rfl, rfl, q1, q2⟩ := hv3
    refine zs_iload_n (pc := 0) dX_codesWith_0 rfl ?_
    refine zs_iload_n (pc := 1) dX_codesWith_1 rfl ?_
    refine zcS0_2 (pc := 2) (d2 := d - 1) (s_X_requirePrefix_y hl (by omega) hv2) dX_codesWith_2 kX_161 mdX_requirePrefix msX_requirePrefix rfl (Nat.le_of_ble_eq_true rfl) (by omega) (by omega) (by omega) ?_
    refine zs_aload_n (pc := 5) dX_codesWith_5 rfl ?_
    refine zcVQ_0 (pc := 6) (d2 := d - 1) (s_X_freshTrie hl (by omega) hX9 hB) dX_codesWith_6 kX_175 mdX_freshTrie miX_freshTrie mvX_freshTrie rfl (by first | exact hx | exact hT9.1) rfl (Nat.le_of_ble_eq_true rfl) (by omega) (by omega) (by omega) (fun v h1 n1 hq => ?_) (fun E h1 n1 hq => absurd hq.1 (by intro q; cases q))
    obtain ⟨hv9, rfl, hf9, hX8, hT9⟩ := hq
    obtain rfl := Sum.inl.inj hv9
    refine zs_iload_n (pc := 9) dX_codesWith_9 rfl ?_
    refine zs_iload_n (pc := 10) dX_codesWith_10 rfl ?_
    refine zcS1_2 (pc := 11) (d2 := d - 1) (s_T_nodeOf hl (by omega) q1 q2) dX_codesWith_11 kX_179 mdT_nodeOf msT_nodeOf rfl (Nat.le_of_ble_eq_true rfl) (by omega) (by omega) (by omega) ?_
    refine zcV1_1 (pc := 14) (d2 := d - 1) (s_T_codesAt hl hT9 (ztn_lt q1 q2)) dX_codesWith_14 kX_199 mdT_codesAt miT_codesAt mvT_codesAt rfl (by first | exact hx | exact hT9.1) rfl (Nat.le_of_ble_eq_true rfl) (by omega) (by omega) (by omega) ?_
    rw [zC_cod q1 q2]
    exact zs_iret (pc := 17) dX_codesWith_17 rfl rfl (by omega) (by omega) (⟨zOut.y, hf9.z, hX8⟩)
theorem s_X_nextDigits {Γ : zG} {l : Launch} (hl : l.stackTraces = false) {d : Nat} (hd : 4 ≤ d) {h : zH} {n : Nat} {B x c np : Nat} {g T : Nat → Nat} {P : Nat → Nat → Nat} {sv : Option (Nat → Nat)} {er fl : Option Nat} {L : List Nat} (hX : XR B h x g P c sv er fl T np L) (hB : B < 2 ^ 20) (y z : Int32) : zC Γ l d mX_nextDigits [.ref x, .int y, .int z] h n 1 6 (zXq x h n ["", sIA] (aNext g y z) (fun h1 => XR B h1 x g P c sv er fl T np L)) := by
  have hX9 := hX; obtain ⟨⟨st, hst, hx, htr⟩, hR, hI, hsv, hH, hrk, hpg, hn60, hTc, hL, hag⟩ := hX; have i0 := hI.1
  unfold aNext
  refine zC_of (ls := [some (.ref x), some (.int y), some (.int z)]) hl (by decide +kernel) rfl (Nat.le_of_ble_eq_true rfl) rfl ?_
  cases hv : zPv y z with
  | false =>
    rw [if_neg (by rintro ⟨q, -⟩; cases q)]
    refine zs_iload_n (pc := 0) dX_nextDigits_0 rfl ?_
    refine zs_iload_n (pc := 1) dX_nextDigits_1 rfl ?_
    refine zcST_2 (pc := 2) (d2 := d - 1) (s_X_requirePrefix_n hl (by omega) (zPv_n hv)) dX_nextDigits_2 kX_161 mdX_requirePrefix msX_requirePrefix rfl (Nat.le_of_ble_eq_true rfl) (by omega) (by omega) (by omega) rfl (fun n2 hn2 => ?_)
    exact ⟨zOut.n rfl hn2, zfr.rf, hX9⟩
  | true =>
    have hv2 := zPv_y hv
    generalize y.toInt.toNat = dn at hv2 ⊢
    generalize z.toInt.toNat = v at hv2 ⊢
    have hv3 := hv2
    obtain ⟨rfl, rfl, q1, q2⟩ := hv3
    by_cases h3 : dn < 3
    · rw [if_pos ⟨rfl, h3⟩]
      refine zs_iload_n (pc := 0) dX_nextDigits_0 rfl ?_
      refine zs_iload_n (pc := 1) dX_nextDigits_1 rfl ?_
      refine zcS0_2 (pc := 2) (d2 := d - 1) (s_X_requirePrefix_y hl (by omega) hv2) dX_nextDigits_2 kX_161 mdX_requirePrefix msX_requirePrefix rfl (Nat.le_of_ble_eq_true rfl) (by omega) (by omega) (by omega) ?_
      refine zs_iload_n (pc := 5) dX_nextDigits_5 rfl ?_
      refine zs_iconst (pc := 6) dX_nextDigits_6 zi_3 ?_
      refine zn_icmp_ne (pc := 7) 20 dX_nextDigits_7 rfl (by omega) (by omega) (fun _ => ?_) (fun h9 => absurd h9 (by omega))
      refine zs_aload_n (pc := 20) dX_nextDigits_20 rfl ?_
      refine zcVQ_0 (pc := 21) (d2 := d - 1) (s_X_freshTrie hl (by omega) hX9 hB) dX_nextDigits_21 kX_175 mdX_freshTrie miX_freshTrie mvX_freshTrie rfl (by first | exact hx | exact hT9.1) rfl (Nat.le_of_ble_eq_true rfl) (by omega) (by omega) (by omega) (fun v h1 n1 hq => ?_) (fun E h1 n1 hq => absurd hq.1 (by intro q; cases q))
      obtain ⟨hv9, rfl, hf9, hX8, hT9⟩ := hq
      obtain rfl := Sum.inl.inj hv9
      refine zs_iload_n (pc := 24) dX_nextDigits_24 rfl ?_
      refine zs_iload_n (pc := 25) dX_nextDigits_25 rfl ?_
      refine zcS1_2 (pc := 26) (d2 := d - 1) (s_T_nodeOf hl (by omega) q1 q2) dX_nextDigits_26 kX_179 mdT_nodeOf msT_nodeOf rfl (Nat.le_of_ble_eq_true rfl) (by omega) (by omega) (by omega) ?_
      refine zcV1_1 (pc := 29) (d2 := d - 1) (s_T_branchesAt hl (by omega) hT9 (ztn_in (by omega) q2) (fun q => Nat.lt_of_le_of_lt zCj_le (by decide))) dX_nextDigits_29 kX_204 mdT_branchesAt miT_branchesAt mvT_branchesAt rfl (by first | exact hx | exact hT9.1) rfl (Nat.le_of_ble_eq_true rfl) (by omega) (by omega) (by omega) ?_
      rw [zC_br hI (by omega) q2]
      exact zs_iret (pc := 32) dX_nextDigits_32 rfl rfl (by omega) (by omega) (⟨zOut.y, hf9.z, hX8⟩)
    · rw [if_neg (fun q => h3 q.2)]
      refine zs_iload_n (pc := 0) dX_nextDigits_0 rfl ?_
      refine zs_iload_n (pc := 1) dX_nextDigits_1 rfl ?_
      refine zcS0_2 (pc := 2) (d2 := d - 1) (s_X_requirePrefix_y hl (by omega) hv2) dX_nextDigits_2 kX_161 mdX_requirePrefix msX_requirePrefix rfl (Nat.le_of_ble_eq_true rfl) (by omega) (by omega) (by omega) ?_
      refine zs_iload_n (pc := 5) dX_nextDigits_5 rfl ?_
      refine zs_iconst (pc := 6) dX_nextDigits_6 zi_3 ?_
      refine zn_icmp_ne (pc := 7) 20 dX_nextDigits_7 rfl (by omega) (by omega) (fun h9 => absurd h9 (by omega)) (fun _ => ?_)
      exact zs_throw (pc := 10) (text := "nothing can continue a whole code") thIA (by decide) rfl dX_nextDigits_10 dX_nextDigits_13 dX_nextDigits_14 dX_nextDigits_16 dX_nextDigits_19 (Nat.le_of_ble_eq_true rfl) (by omega) (by omega) (fun n2 hn2 => ⟨zOut.n rfl hn2, zfr.rf, hX9⟩)
theorem s_X_sharedDigits {Γ : zG} {l : Launch} (hl : l.stackTraces = false) {d : Nat} (hd : 4 ≤ d) {h : zH} {n : Nat} {B x c np : Nat} {g T : Nat → Nat} {P : Nat → Nat → Nat} {sv : Option (Nat → Nat)} {er fl : Option Nat} {L : List Nat} (hX : XR B h x g P c sv er fl T np L) (hB : B < 2 ^ 20) (y : Int32) : zC Γ l d mX_sharedDigits [.ref x, .int y] h n 1 6 (zXq x h n ["", sIA] (aDep g y) (fun h1 => XR B h1 x g P c sv er fl T np L)) := by
  have hX9 := hX; obtain ⟨⟨st, hst, hx, htr⟩, hR, hI, hsv, hH, hrk, hpg, hn60, hTc, hL, hag⟩ := hX; have i0 := hI.1
  unfold aDep
  refine zC_of (ls := [some (.ref x), some (.int y)]) hl (by decide +kernel) rfl (Nat.le_of_ble_eq_true rfl) rfl ?_
  cases hv : zV y 0 999 with
  | false =>
    have hv2 := zV_n (by decide) hv
    rw [if_neg (by decide)]
    refine zs_iload_n (pc := 0) dX_sharedDigits_0 rfl ?_
    refine zcST_1 (pc := 1) (d2 := d - 1) (s_X_requireCode_n hl (by omega) (fun ⟨c, c1, c2⟩ => hv2 ⟨c, by omega, by omega, c2⟩)) dX_sharedDigits_1 kX_154 mdX_requireCode msX_requireCode rfl (Nat.le_of_ble_eq_true rfl) (by omega) (by omega) (by omega) rfl (fun n2 hn2 => ?_)
    exact ⟨zOut.n rfl hn2, zfr.rf, hX9⟩
  | true =>
    rw [if_pos rfl]
    obtain ⟨v1, v2, v3⟩ := zV_y hv
    generalize y.toInt.toNat = w at v1 v2 v3 ⊢
    subst v3
    refine zs_iload_n (pc := 0) dX_sharedDigits_0 rfl ?_
    refine zcS0_1 (pc := 1) (d2 := d - 1) (s_X_requireCode_y hl (by omega) (by omega)) dX_sharedDigits_1 kX_154 mdX_requireCode msX_requireCode rfl (Nat.le_of_ble_eq_true rfl) (by omega) (by omega) (by omega) ?_
    refine zs_aload_n (pc := 4) dX_sharedDigits_4 rfl ?_
    refine zcVQ_0 (pc := 5) (d2 := d - 1) (s_X_freshTrie hl (by omega) hX9 hB) dX_sharedDigits_5 kX_175 mdX_freshTrie miX_freshTrie mvX_freshTrie rfl (by first | exact hx | exact hT9.1) rfl (Nat.le_of_ble_eq_true rfl) (by omega) (by omega) (by omega) (fun v h1 n1 hq => ?_) (fun E h1 n1 hq => absurd hq.1 (by intro q; cases q))
    obtain ⟨hv9, rfl, hf9, hX8, hT9⟩ := hq
    obtain rfl := Sum.inl.inj hv9
    refine zs_iload_n (pc := 8) dX_sharedDigits_8 rfl ?_
    refine zcV1_1 (pc := 9) (d2 := d - 1) (s_T_depthReachedBy hl (by omega) hT9 (by omega) (fun q => Nat.lt_of_le_of_lt zCj_le (by decide))) dX_sharedDigits_9 kX_207 mdT_depthReachedBy miT_depthReachedBy mvT_depthReachedBy rfl (by first | exact hx | exact hT9.1) rfl (Nat.le_of_ble_eq_true rfl) (by omega) (by omega) (by omega) ?_
    rw [zC_dep hI (by omega)]
    exact zs_iret (pc := 12) dX_sharedDigits_12 rfl rfl (by omega) (by omega) (⟨zOut.y, hf9.z, hX8⟩)
theorem s_X_entriesWith {Γ : zG} {l : Launch} (hl : l.stackTraces = false) {d : Nat} (hd : 4 ≤ d) {h : zH} {n : Nat} {B x c np : Nat} {g T : Nat → Nat} {P : Nat → Nat → Nat} {sv : Option (Nat → Nat)} {er fl : Option Nat} {L : List Nat} (hX : XR B h x g P c sv er fl T np L) (hB : B < 2 ^ 20) (y : Int32) : zC Γ l d mX_entriesWith [.ref x, .int y] h n 1 6 (zXq x h n ["", sIA] (aEnt g y) (fun h1 => XR B h1 x g P c sv er fl T np L)) := by
  have hX9 := hX; obtain ⟨⟨st, hst, hx, htr⟩, hR, hI, hsv, hH, hrk, hpg, hn60, hTc, hL, hag⟩ := hX; have i0 := hI.1
  unfold aEnt
  refine zC_of (ls := [some (.ref x), some (.int y)]) hl (by decide +kernel) rfl (Nat.le_of_ble_eq_true rfl) rfl ?_
  cases hv : zV y 0 999 with
  | false =>
    have hv2 := zV_n (by decide) hv
    rw [if_neg (by decide)]
    refine zs_iload_n (pc := 0) dX_entriesWith_0 rfl ?_
    refine zcST_1 (pc := 1) (d2 := d - 1) (s_X_requireCode_n hl (by omega) (fun ⟨c, c1, c2⟩ => hv2 ⟨c, by omega, by omega, c2⟩)) dX_entriesWith_1 kX_154 mdX_requireCode msX_requireCode rfl (Nat.le_of_ble_eq_true rfl) (by omega) (by omega) (by omega) rfl (fun n2 hn2 => ?_)
    exact ⟨zOut.n rfl hn2, zfr.rf, hX9⟩
  | true =>
    rw [if_pos rfl]
    obtain ⟨v1, v2, v3⟩ := zV_y hv
    generalize y.toInt.toNat = w at v1 v2 v3 ⊢
    subst v3
    have q2 : w < 10 ^ 3 := by omega
    refine zs_iload_n (pc := 0) dX_entriesWith_0 rfl ?_
    refine zcS0_1 (pc := 1) (d2 := d - 1) (s_X_requireCode_y hl (by omega) (by omega)) dX_entriesWith_1 kX_154 mdX_requireCode msX_requireCode rfl (Nat.le_of_ble_eq_true rfl) (by omega) (by omega) (by omega) ?_
    refine zs_aload_n (pc := 4) dX_entriesWith_4 rfl ?_
    refine zcVQ_0 (pc := 5) (d2 := d - 1) (s_X_freshTrie hl (by omega) hX9 hB) dX_entriesWith_5 kX_175 mdX_freshTrie miX_freshTrie mvX_freshTrie rfl (by first | exact hx | exact hT9.1) rfl (Nat.le_of_ble_eq_true rfl) (by omega) (by omega) (by omega) (fun v h1 n1 hq => ?_) (fun E h1 n1 hq => absurd hq.1 (by intro q; cases q))
    obtain ⟨hv9, rfl, hf9, hX8, hT9⟩ := hq
    obtain rfl := Sum.inl.inj hv9
    refine zs_iconst (pc := 8) dX_entriesWith_8 zi_3 ?_
    refine zs_iload_n (pc := 9) dX_entriesWith_9 rfl ?_
    refine zcS1_2 (pc := 10) (d2 := d - 1) (s_T_nodeOf (dn := 3) hl (by omega) (by decide) q2) dX_entriesWith_10 kX_179 mdT_nodeOf msT_nodeOf rfl (Nat.le_of_ble_eq_true rfl) (by omega) (by omega) (by omega) ?_
    refine zcV1_1 (pc := 13) (d2 := d - 1) (s_T_entriesAt hl hT9 (ztn_lt (dn := 3) (by decide) q2)) dX_entriesWith_13 kX_182 mdT_entriesAt miT_entriesAt mvT_entriesAt rfl (by first | exact hx | exact hT9.1) rfl (Nat.le_of_ble_eq_true rfl) (by omega) (by omega) (by omega) ?_
    rw [zE_res hI (by decide) q2]
    exact zs_iret (pc := 16) dX_entriesWith_16 rfl rfl (by omega) (by omega) (⟨zOut.y, hf9.z, hX8⟩)
theorem s_X_commonestCode {Γ : zG} {l : Launch} (hl : l.stackTraces = false) {d : Nat} (hd : 4 ≤ d) {h : zH} {n : Nat} {B x c np : Nat} {g T : Nat → Nat} {P : Nat → Nat → Nat} {sv : Option (Nat → Nat)} {er fl : Option Nat} {L : List Nat} (hX : XR B h x g P c sv er fl T np L) (hB : B < 2 ^ 20) : zC Γ l d mX_commonestCode [.ref x] h n 1 6 (zXq x h n ["", sNS] (aCom g) (fun h1 => XR B h1 x g P c sv er fl T np L)) := by
  have hX9 := hX; obtain ⟨⟨st, hst, hx, htr⟩, hR, hI, hsv, hH, hrk, hpg, hn60, hTc, hL, hag⟩ := hX; have i0 := hI.1
  have hE9 : ∀ q, zEj g (g 0) 0 q < 2 ^ 20 := fun q => by
    have := zEj_b (g := g) (i := g 0) (j := 0) (x := q)
    omega
  have hc2 := (zcmF_le (f := fun c => zres g 3 c) (B := 20) 1000 (fun i _ => Nat.le_trans zres_le i0)).2
  unfold aCom
  refine zC_of (ls := [some (.ref x), none]) hl (by decide +kernel) rfl (Nat.le_of_ble_eq_true rfl) rfl ?_
  refine zs_aload_n (pc := 0) dX_commonestCode_0 rfl ?_
  refine zcVQ_0 (pc := 1) (d2 := d - 1) (s_X_freshTrie hl (by omega) hX9 hB) dX_commonestCode_1 kX_175 mdX_freshTrie miX_freshTrie mvX_freshTrie rfl (by first | exact hx | exact hT9.1) rfl (Nat.le_of_ble_eq_true rfl) (by omega) (by omega) (by omega) (fun v h1 n1 hq => ?_) (fun E h1 n1 hq => absurd hq.1 (by intro q; cases q))
  obtain ⟨hv9, rfl, hf9, hX8, hT9⟩ := hq
  obtain rfl := Sum.inl.inj hv9
  refine zcV1_0 (pc := 4) (d2 := d - 1) (s_T_commonestLeaf hl hT9 hE9) dX_commonestCode_4 kX_228 mdT_commonestLeaf miT_commonestLeaf mvT_commonestLeaf rfl (by first | exact hx | exact hT9.1) rfl (Nat.le_of_ble_eq_true rfl) (by omega) (by omega) (by omega) ?_
  rw [zC_com hI]
  refine zs_istore_n (pc := 7) (ls2 := [_, _]) dX_commonestCode_7 (Nat.le_of_ble_eq_true rfl) rfl ?_
  refine zs_iload_n (pc := 8) dX_commonestCode_8 rfl ?_
  refine zs_iconst (pc := 9) dX_commonestCode_9 zi_m1 ?_
  generalize (zcmF (fun c => zres g 3 c) 1000).2 = r at hc2 ⊢
  unfold zpre
  by_cases e : r = 0
  · rw [if_pos e, if_pos e]
    refine zs_icmp_ne (pc := 10) 23 dX_commonestCode_10 rfl (fun h9 => absurd h9 (fun q => q rfl)) (fun _ => ?_)
    exact zs_throwN (pc := 13) (text := "no entry has a code") thNS (by decide) rfl dX_commonestCode_13 dX_commonestCode_16 dX_commonestCode_17 dX_commonestCode_19 dX_commonestCode_22 (Nat.le_of_ble_eq_true rfl) (by omega) (by omega) (fun n2 hn2 => ⟨zOut.n rfl hn2, hf9.z, hX8⟩)
  · rw [if_neg e, if_neg e]
    have hne : ¬ nI (r - 1) = -1 := fun q => by
      have h9 := nI_pos (n := r - 1) (by omega)
      rw [q] at h9
      exact h9 (by decide)
    refine zs_icmp_ne (pc := 10) 23 dX_commonestCode_10 rfl (fun _ => ?_) (fun h9 => absurd h9 (hne))
    refine zs_iload_n (pc := 23) dX_commonestCode_23 rfl ?_
    exact zs_iret (pc := 24) dX_commonestCode_24 rfl rfl (by omega) (by omega) (⟨zOut.y, hf9.z, hX8⟩)

