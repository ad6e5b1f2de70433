/-! the whole object: questions that look at all entries -/
theorem lp_X_resultCountByScan {Γ : zG} {l : Launch} (hl : l.stackTraces = false) {d : Nat} (hd : 4 ≤ d) {h : zH} {n : Nat} {x st B dn v : Nat} {sv : Bool} {er fl : Option Nat} {g : Nat → Nat} {p : Nat → Nat} {Q : Nat → Nat → Nat} {mc ms : Nat} {FN : List Frame → Array Value → State → State → Prop} (hx : h x = some (zXo x st sv er fl)) (hC : CH h (x + 1) p Q (zFg g)) (hp : PM p) (hA : ∀ j, j < g 0 → zAg (Q (p j)) (eg g j)) (hI : IG B g) (hB : B < 2 ^ 20) (hdn : dn ≤ 3) (hv : v < 2 ^ 31) (K : Z Γ l mX_resultCountByScan d mc ms FN 49 [some (.ref x), some (.int (nI dn)), some (.int (nI v)), some (.int (nI (zres g dn v))), some (.int (nI (g 0)))] [] h n 0 0) : ∀ i j, i + j = g 0 → Z Γ l mX_resultCountByScan d mc ms FN 10 [some (.ref x), some (.int (nI dn)), some (.int (nI v)), some (.int (nI (zcnt (fun k => decide (0 < zmany (eg g k) dn v)) j))), some (.int (nI j))] [] h n 0 0 := by
  have i0 := hI.1
  have e1 : zFg g 1 = g 0 := rfl
  intro i
  induction i with
  | zero =>
    intro j hj
    obtain rfl : j = g 0 := by omega
    refine zs_iload (pc := 10) dX_resultCountByScan_10 rfl ?_
    refine zs_aload_n (pc := 12) dX_resultCountByScan_12 rfl ?_
    refine zs_get (pc := 13) dX_resultCountByScan_13 fX_12 (by first | exact hx | exact hC.1 | exact hC.2.1 | exact (hC.2.2 _ (hp.1 _ (by omega))).1) (by rfl) ?_
    refine zs_get (pc := 16) dX_resultCountByScan_16 fX_115 (by first | exact hx | exact hC.1 | exact hC.2.1 | exact (hC.2.2 _ (hp.1 _ (by omega))).1) (by rfl) ?_
    refine zn_icmp_ge (pc := 19) 49 dX_resultCountByScan_19 rfl (by omega) (by omega) (fun _ => ?_) (fun h9 => absurd h9 (by omega))
    exact K
  | succ i ih =>
    intro j hj
    have hz := ih (j + 1) (by omega)
    have hA1 := hA j (by omega)
    have he := hC.2.2 (p j) (hp.1 j (by omega))
    have hb := hA1.b (hI.b hB (j := j) (by omega))
    have hm := hA1.many dn v
    have hm6 : zmany (eg g j) dn v ≤ eg g j 5 := zcnt_le _ _
    have h6 := hI.s6 j (by omega)
    by_cases e : 0 < zmany (eg g j) dn v
    · rw [zcnt_t (p := fun k => decide (0 < zmany (eg g k) dn v)) (decide_eq_true e)] at hz
      refine zs_iload (pc := 10) dX_resultCountByScan_10 rfl ?_
      refine zs_aload_n (pc := 12) dX_resultCountByScan_12 rfl ?_
      refine zs_get (pc := 13) dX_resultCountByScan_13 fX_12 (by first | exact hx | exact hC.1 | exact hC.2.1 | exact (hC.2.2 _ (hp.1 _ (by omega))).1) (by rfl) ?_
      refine zs_get (pc := 16) dX_resultCountByScan_16 fX_115 (by first | exact hx | exact hC.1 | exact hC.2.1 | exact (hC.2.2 _ (hp.1 _ (by omega))).1) (by rfl) ?_
      refine zn_icmp_ge (pc := 19) 49 dX_resultCountByScan_19 rfl (by omega) (by omega) (fun h9 => absurd h9 (by omega)) (fun _ => ?_)
      refine zs_aload_n (pc := 22) dX_resultCountByScan_22 rfl ?_
      refine zs_get (pc := 23) dX_resultCountByScan_23 fX_12 (by first | exact hx | exact hC.1 | exact hC.2.1 | exact (hC.2.2 _ (hp.1 _ (by omega))).1) (by rfl) ?_
      refine zs_get (pc := 26) dX_resultCountByScan_26 fX_120 (by first | exact hx | exact hC.1 | exact hC.2.1 | exact (hC.2.2 _ (hp.1 _ (by omega))).1) (by rfl) ?_
      refine zs_iload (pc := 29) dX_resultCountByScan_29 rfl ?_
      refine zn_aald (pc := 31) (Or.inl rfl) dX_resultCountByScan_31 (by first | exact hx | exact hC.1 | exact hC.2.1 | exact (hC.2.2 _ (hp.1 _ (by omega))).1) (by omega) (by decide) (by rfl) ?_
      refine zs_iload_n (pc := 32) dX_resultCountByScan_32 rfl ?_
      refine zs_iload_n (pc := 33) dX_resultCountByScan_33 rfl ?_
      refine zcV1_2 (pc := 34) (d2 := d - 1) (s_E_countWith hl (by omega) hb he.1 he.2 hdn hv) dX_resultCountByScan_34 kX_165 mdE_countWith miE_countWith mvE_countWith rfl (by first | exact hx | exact he.1) rfl (Nat.le_of_ble_eq_true rfl) (by omega) (by omega) (by omega) ?_
      refine zn_if_le (pc := 37) 43 dX_resultCountByScan_37 rfl (by omega) (fun h9 => absurd h9 (by omega)) (fun _ => ?_)
      refine zn_iinc (pc := 40) (ls2 := [_, _, _, _, _]) dX_resultCountByScan_40 rfl (Nat.le_of_ble_eq_true rfl) rfl ?_
      refine zn_iinc (pc := 43) (ls2 := [_, _, _, _, _]) dX_resultCountByScan_43 rfl (Nat.le_of_ble_eq_true rfl) rfl ?_
      refine zs_goto (pc := 46) 10 dX_resultCountByScan_46 rfl ?_
      exact hz
    · rw [zcnt_f (p := fun k => decide (0 < zmany (eg g k) dn v)) (decide_eq_false e)] at hz
      refine zs_iload (pc := 10) dX_resultCountByScan_10 rfl ?_
      refine zs_aload_n (pc := 12) dX_resultCountByScan_12 rfl ?_
      refine zs_get (pc := 13) dX_resultCountByScan_13 fX_12 (by first | exact hx | exact hC.1 | exact hC.2.1 | exact (hC.2.2 _ (hp.1 _ (by omega))).1) (by rfl) ?_
      refine zs_get (pc := 16) dX_resultCountByScan_16 fX_115 (by first | exact hx | exact hC.1 | exact hC.2.1 | exact (hC.2.2 _ (hp.1 _ (by omega))).1) (by rfl) ?_
      refine zn_icmp_ge (pc := 19) 49 dX_resultCountByScan_19 rfl (by omega) (by omega) (fun h9 => absurd h9 (by omega)) (fun _ => ?_)
      refine zs_aload_n (pc := 22) dX_resultCountByScan_22 rfl ?_
      refine zs_get (pc := 23) dX_resultCountByScan_23 fX_12 (by first | exact hx | exact hC.1 | exact hC.2.1 | exact (hC.2.2 _ (hp.1 _ (by omega))).1) (by rfl) ?_
      refine zs_get (pc := 26) dX_resultCountByScan_26 fX_120 (by first | exact hx | exact hC.1 | exact hC.2.1 | exact (hC.2.2 _ (hp.1 _ (by omega))).1) (by rfl) ?_
      refine zs_iload (pc := 29) dX_resultCountByScan_29 rfl ?_
      refine zn_aald (pc := 31) (Or.inl rfl) dX_resultCountByScan_31 (by first | exact hx | exact hC.1 | exact hC.2.1 | exact (hC.2.2 _ (hp.1 _ (by omega))).1) (by omega) (by decide) (by rfl) ?_
      refine zs_iload_n (pc := 32) dX_resultCountByScan_32 rfl ?_
      refine zs_iload_n (pc := 33) dX_resultCountByScan_33 rfl ?_
      refine zcV1_2 (pc := 34) (d2 := d - 1) (s_E_countWith hl (by omega) hb he.1 he.2 hdn hv) dX_resultCountByScan_34 kX_165 mdE_countWith miE_countWith mvE_countWith rfl (by first | exact hx | exact he.1) rfl (Nat.le_of_ble_eq_true rfl) (by omega) (by omega) (by omega) ?_
      refine zn_if_le (pc := 37) 43 dX_resultCountByScan_37 rfl (by omega) (fun _ => ?_) (fun h9 => absurd h9 (by omega))
      refine zn_iinc (pc := 43) (ls2 := [_, _, _, _, _]) dX_resultCountByScan_43 rfl (Nat.le_of_ble_eq_true rfl) rfl ?_
      refine zs_goto (pc := 46) 10 dX_resultCountByScan_46 rfl ?_
      exact hz
theorem s_X_resultCountByScan {Γ : zG} {l : Launch} (hl : l.stackTraces = false) {d : Nat} (hd : 4 ≤ d) {h : zH} {n : Nat} {B x c np : Nat} {g T : Nat → Nat} {P : Nat → Nat → Nat} {sv : Option (Nat → Nat)} {er fl : Option Nat} {L : List Nat} (hX : XR B h x g P c sv er fl T np L) (hB : B < 2 ^ 20) (y z : Int32) : zC Γ l d mX_resultCountByScan [.ref x, .int y, .int z] h n 1 6 (zXq x h n ["", sIA] (aRes g y z) (fun h1 => XR B h1 x g P c sv er fl T np L)) := by
  have hX9 := hX; obtain ⟨⟨st, hst, hx, htr⟩, hR, hI, hsv, hH, hrk, hpg, hn60, hTc, hL, hag⟩ := hX; have i0 := hI.1
  obtain ⟨p, Q, hC, hp, hA⟩ := hR
  unfold aRes
  refine zC_of (ls := [some (.ref x), some (.int y), some (.int z), none, none]) hl (by decide +kernel) rfl (Nat.le_of_ble_eq_true rfl) rfl ?_
  cases hv : zPv y z with
  | false =>
    rw [if_neg (by decide)]
    refine zs_iload_n (pc := 0) dX_resultCountByScan_0 rfl ?_
    refine zs_iload_n (pc := 1) dX_resultCountByScan_1 rfl ?_
    refine zcST_2 (pc := 2) (d2 := d - 1) (s_X_requirePrefix_n hl (by omega) (zPv_n hv)) dX_resultCountByScan_2 kX_161 mdX_requirePrefix msX_requirePrefix rfl (Nat.le_of_ble_eq_true rfl) (by omega) (by omega) (by omega) rfl (fun n2 hn2 => ?_)
    exact ⟨zOut.n rfl hn2, zfr.rf, hX9⟩
  | true =>
    rw [if_pos rfl]
    have hv2 := zPv_y hv
    generalize y.toInt.toNat = dn at hv2 ⊢
    generalize z.toInt.toNat = v at hv2 ⊢
    have hv3 := hv2
    obtain ⟨rfl, rfl, q1, q2⟩ := hv3
    have h3 := z10 q1
    refine zs_iload_n (pc := 0) dX_resultCountByScan_0 rfl ?_
    refine zs_iload_n (pc := 1) dX_resultCountByScan_1 rfl ?_
    refine zcS0_2 (pc := 2) (d2 := d - 1) (s_X_requirePrefix_y hl (by omega) hv2) dX_resultCountByScan_2 kX_161 mdX_requirePrefix msX_requirePrefix rfl (Nat.le_of_ble_eq_true rfl) (by omega) (by omega) (by omega) ?_
    refine zs_iconst (pc := 5) dX_resultCountByScan_5 zi_0 ?_
    refine zs_istore_n (pc := 6) (ls2 := [_, _, _, _, _]) dX_resultCountByScan_6 (Nat.le_of_ble_eq_true rfl) rfl ?_
    refine zs_iconst (pc := 7) dX_resultCountByScan_7 zi_0 ?_
    refine zs_istore (pc := 8) (ls2 := [_, _, _, _, _]) dX_resultCountByScan_8 (Nat.le_of_ble_eq_true rfl) rfl ?_
    refine lp_X_resultCountByScan hl hd hx hC hp hA hI hB q1 (by omega) ?_ (g 0) 0 rfl
    refine zs_iload_n (pc := 49) dX_resultCountByScan_49 rfl ?_
    exact zs_iret (pc := 50) dX_resultCountByScan_50 rfl rfl (by omega) (by omega) (⟨zOut.y, zfr.rf, hX9⟩)
def aFad (g : Nat → Nat) (y : Int32) : Nat × Int32 := if zV y 1 60 = true then (0, nI (zcnt (fun k => decide (zlife (eg g k) - eg g k 2 + 1 ≤ y.toInt.toNat)) (g 0))) else (1, -1)
theorem lp_X_fadingWithin {Γ : zG} {l : Launch} (hl : l.stackTraces = false) {d : Nat} (hd : 4 ≤ d) {h : zH} {n : Nat} {x st B v : Nat} {sv : Bool} {er fl : Option Nat} {g : Nat → Nat} {p : Nat → Nat} {Q : Nat → Nat → Nat} {mc ms : Nat} {FN : List Frame → Array Value → State → State → Prop} (hx : h x = some (zXo x st sv er fl)) (hC : CH h (x + 1) p Q (zFg g)) (hp : PM p) (hA : ∀ j, j < g 0 → zAg (Q (p j)) (eg g j)) (hI : IG B g) (hB : B < 2 ^ 20) (hv : v < 2 ^ 31) (K : Z Γ l mX_fadingWithin d mc ms FN 61 [some (.ref x), some (.int (nI v)), some (.int (nI (zcnt (fun k => decide (zlife (eg g k) - eg g k 2 + 1 ≤ v)) (g 0)))), some (.int (nI (g 0)))] [] h n 0 0) : ∀ i j, i + j = g 0 → Z Γ l mX_fadingWithin d mc ms FN 25 [some (.ref x), some (.int (nI v)), some (.int (nI (zcnt (fun k => decide (zlife (eg g k) - eg g k 2 + 1 ≤ v)) j))), some (.int (nI j))] [] h n 0 0 := by
  have i0 := hI.1
  have e1 : zFg g 1 = g 0 := rfl
  intro i
  induction i with
  | zero =>
    intro j hj
    obtain rfl : j = g 0 := by omega
    refine zs_iload_n (pc := 25) dX_fadingWithin_25 rfl ?_
    refine zs_aload_n (pc := 26) dX_fadingWithin_26 rfl ?_
    refine zs_get (pc := 27) dX_fadingWithin_27 fX_12 (by first | exact hx | exact hC.1 | exact hC.2.1 | exact (hC.2.2 _ (hp.1 _ (by omega))).1) (by rfl) ?_
    refine zs_get (pc := 30) dX_fadingWithin_30 fX_115 (by first | exact hx | exact hC.1 | exact hC.2.1 | exact (hC.2.2 _ (hp.1 _ (by omega))).1) (by rfl) ?_
    refine zn_icmp_ge (pc := 33) 61 dX_fadingWithin_33 rfl (by omega) (by omega) (fun _ => ?_) (fun h9 => absurd h9 (by omega))
    exact K
  | succ i ih =>
    intro j hj
    have hz := ih (j + 1) (by omega)
    have hA1 := hA j (by omega)
    have he := hC.2.2 (p j) (hp.1 j (by omega))
    have hb := hA1.b (hI.b hB (j := j) (by omega))
    have h2 := hA1 2 (by omega)
    have h7 := hA1.life
    have h8 := zlife_le (eg g j)
    have h9 := (hI.w (j := j) (by omega)).2
    by_cases e : zlife (eg g j) - eg g j 2 + 1 ≤ v
    · rw [zcnt_t (p := fun k => decide (zlife (eg g k) - eg g k 2 + 1 ≤ v)) (decide_eq_true e)] at hz
      refine zs_iload_n (pc := 25) dX_fadingWithin_25 rfl ?_
      refine zs_aload_n (pc := 26) dX_fadingWithin_26 rfl ?_
      refine zs_get (pc := 27) dX_fadingWithin_27 fX_12 (by first | exact hx | exact hC.1 | exact hC.2.1 | exact (hC.2.2 _ (hp.1 _ (by omega))).1) (by rfl) ?_
      refine zs_get (pc := 30) dX_fadingWithin_30 fX_115 (by first | exact hx | exact hC.1 | exact hC.2.1 | exact (hC.2.2 _ (hp.1 _ (by omega))).1) (by rfl) ?_
      refine zn_icmp_ge (pc := 33) 61 dX_fadingWithin_33 rfl (by omega) (by omega) (fun h9 => absurd h9 (by omega)) (fun _ => ?_)
      refine zs_aload_n (pc := 36) dX_fadingWithin_36 rfl ?_
      refine zs_get (pc := 37) dX_fadingWithin_37 fX_12 (by first | exact hx | exact hC.1 | exact hC.2.1 | exact (hC.2.2 _ (hp.1 _ (by omega))).1) (by rfl) ?_
      refine zs_get (pc := 40) dX_fadingWithin_40 fX_120 (by first | exact hx | exact hC.1 | exact hC.2.1 | exact (hC.2.2 _ (hp.1 _ (by omega))).1) (by rfl) ?_
      refine zs_iload_n (pc := 43) dX_fadingWithin_43 rfl ?_
      refine zn_aald (pc := 44) (Or.inl rfl) dX_fadingWithin_44 (by first | exact hx | exact hC.1 | exact hC.2.1 | exact (hC.2.2 _ (hp.1 _ (by omega))).1) (by omega) (by decide) (by rfl) ?_
      refine zcV1_0 (pc := 45) (d2 := d - 1) (s_E_daysLeft hl (by omega) hb (by rw [h2, h7]; exact h9) he.1) dX_fadingWithin_45 kX_242 mdE_daysLeft miE_daysLeft mvE_daysLeft rfl (by first | exact hx | exact he.1) rfl (Nat.le_of_ble_eq_true rfl) (by omega) (by omega) (by omega) ?_
      refine zs_iload_n (pc := 48) dX_fadingWithin_48 rfl ?_
      refine zn_icmp_gt (pc := 49) 55 dX_fadingWithin_49 rfl (by omega) (by omega) (fun h9 => absurd h9 (by omega)) (fun _ => ?_)
      refine zn_iinc (pc := 52) (ls2 := [_, _, _, _]) dX_fadingWithin_52 rfl (Nat.le_of_ble_eq_true rfl) rfl ?_
      refine zn_iinc (pc := 55) (ls2 := [_, _, _, _]) dX_fadingWithin_55 rfl (Nat.le_of_ble_eq_true rfl) rfl ?_
      refine zs_goto (pc := 58) 25 dX_fadingWithin_58 rfl ?_
      exact hz
    · rw [zcnt_f (p := fun k => decide (zlife (eg g k) - eg g k 2 + 1 ≤ v)) (decide_eq_false e)] at hz
      refine zs_iload_n (pc := 25) dX_fadingWithin_25 rfl ?_
      refine zs_aload_n (pc := 26) dX_fadingWithin_26 rfl ?_
      refine zs_get (pc := 27) dX_fadingWithin_27 fX_12 (by first | exact hx | exact hC.1 | exact hC.2.1 | exact (hC.2.2 _ (hp.1 _ (by omega))).1) (by rfl) ?_
      refine zs_get (pc := 30) dX_fadingWithin_30 fX_115 (by first | exact hx | exact hC.1 | exact hC.2.1 | exact (hC.2.2 _ (hp.1 _ (by omega))).1) (by rfl) ?_
      refine zn_icmp_ge (pc := 33) 61 dX_fadingWithin_33 rfl (by omega) (by omega) (fun h9 => absurd h9 (by omega)) (fun _ => ?_)
      refine zs_aload_n (pc := 36) dX_fadingWithin_36 rfl ?_
      refine zs_get (pc := 37) dX_fadingWithin_37 fX_12 (by first | exact hx | exact hC.1 | exact hC.2.1 | exact (hC.2.2 _ (hp.1 _ (by omega))).1) (by rfl) ?_
      refine zs_get (pc := 40) dX_fadingWithin_40 fX_120 (by first | exact hx | exact hC.1 | exact hC.2.1 | exact (hC.2.2 _ (hp.1 _ (by omega))).1) (by rfl) ?_
      refine zs_iload_n (pc := 43) dX_fadingWithin_43 rfl ?_
      refine zn_aald (pc := 44) (Or.inl rfl) dX_fadingWithin_44 (by first | exact hx | exact hC.1 | exact hC.2.1 | exact (hC.2.2 _ (hp.1 _ (by omega))).1) (by omega) (by decide) (by rfl) ?_
      refine zcV1_0 (pc := 45) (d2 := d - 1) (s_E_daysLeft hl (by omega) hb (by rw [h2, h7]; exact h9) he.1) dX_fadingWithin_45 kX_242 mdE_daysLeft miE_daysLeft mvE_daysLeft rfl (by first | exact hx | exact he.1) rfl (Nat.le_of_ble_eq_true rfl) (by omega) (by omega) (by omega) ?_
      refine zs_iload_n (pc := 48) dX_fadingWithin_48 rfl ?_
      refine zn_icmp_gt (pc := 49) 55 dX_fadingWithin_49 rfl (by omega) (by omega) (fun _ => ?_) (fun h9 => absurd h9 (by omega))
      refine zn_iinc (pc := 55) (ls2 := [_, _, _, _]) dX_fadingWithin_55 rfl (Nat.le_of_ble_eq_true rfl) rfl ?_
      refine zs_goto (pc := 58) 25 dX_fadingWithin_58 rfl ?_
      exact hz
theorem s_X_fadingWithin {Γ : zG} {l : Launch} (hl : l.stackTraces = false) {d : Nat} (hd : 4 ≤ d) {h : zH} {n : Nat} {B x c np : Nat} {g T : Nat → Nat} {P : Nat → Nat → Nat} {sv : Option (Nat → Nat)} {er fl : Option Nat} {L : List Nat} (hX : XR B h x g P c sv er fl T np L) (hB : B < 2 ^ 20) (y : Int32) : zC Γ l d mX_fadingWithin [.ref x, .int y] h n 1 6 (zXq x h n ["", sIA] (aFad g y) (fun h1 => XR B h1 x g P c sv er fl T np L)) := by
  have hX9 := hX; obtain ⟨⟨st, hst, hx, htr⟩, hR, hI, hsv, hH, hrk, hpg, hn60, hTc, hL, hag⟩ := hX; have i0 := hI.1
  obtain ⟨p, Q, hC, hp, hA⟩ := hR
  unfold aFad
  refine zC_of (ls := [some (.ref x), some (.int y), none, none]) hl (by decide +kernel) rfl (Nat.le_of_ble_eq_true rfl) rfl ?_
  cases hv : zV y 1 60 with
  | false =>
    rw [if_neg (by decide)]
    have hv2 := zV_n (by decide) hv
    refine zs_iload_n (pc := 0) dX_fadingWithin_0 rfl ?_
    refine zs_iconst (pc := 1) dX_fadingWithin_1 zi_1 ?_
    refine zs_icmp_lt (pc := 2) 11 dX_fadingWithin_2 rfl (fun hb => ?_) (fun hb => ?_)
    · exact zs_throw (pc := 11) (text := "the number of days is out of range") thIA (by decide) rfl dX_fadingWithin_11 dX_fadingWithin_14 dX_fadingWithin_15 dX_fadingWithin_17 dX_fadingWithin_20 (Nat.le_of_ble_eq_true rfl) (by omega) (by omega) (fun n2 hn2 => ⟨zOut.n rfl hn2, zfr.rf, hX9⟩)
    · obtain ⟨w, hw, rfl⟩ := nI_of (zge0 (by decide) hb)
      have h2 : ¬ w < 1 := fun q => hb ((nI_ltI hw (by decide)).mpr q)
      refine zs_iload_n (pc := 5) dX_fadingWithin_5 rfl ?_
      refine zs_bipush (pc := 6) dX_fadingWithin_6 (zi_b 60 (by decide)) ?_
      refine zn_icmp_le (pc := 8) 21 dX_fadingWithin_8 rfl (by omega) (by omega) (fun h9 => absurd h9 (fun q => hv2 ⟨w, by omega, q, rfl⟩)) (fun _ => ?_)
      exact zs_throw (pc := 11) (text := "the number of days is out of range") thIA (by decide) rfl dX_fadingWithin_11 dX_fadingWithin_14 dX_fadingWithin_15 dX_fadingWithin_17 dX_fadingWithin_20 (Nat.le_of_ble_eq_true rfl) (by omega) (by omega) (fun n2 hn2 => ⟨zOut.n rfl hn2, zfr.rf, hX9⟩)
  | true =>
    rw [if_pos rfl]
    obtain ⟨v1, v2, v3⟩ := zV_y hv
    generalize y.toInt.toNat = w at v1 v2 v3 ⊢
    subst v3
    refine zs_iload_n (pc := 0) dX_fadingWithin_0 rfl ?_
    refine zs_iconst (pc := 1) dX_fadingWithin_1 zi_1 ?_
    refine zn_icmp_lt (pc := 2) 11 dX_fadingWithin_2 rfl (by omega) (by omega) (fun h9 => absurd h9 (by omega)) (fun _ => ?_)
    refine zs_iload_n (pc := 5) dX_fadingWithin_5 rfl ?_
    refine zs_bipush (pc := 6) dX_fadingWithin_6 (zi_b 60 (by decide)) ?_
    refine zn_icmp_le (pc := 8) 21 dX_fadingWithin_8 rfl (by omega) (by omega) (fun _ => ?_) (fun h9 => absurd h9 (by omega))
    refine zs_iconst (pc := 21) dX_fadingWithin_21 zi_0 ?_
    refine zs_istore_n (pc := 22) (ls2 := [_, _, _, _]) dX_fadingWithin_22 (Nat.le_of_ble_eq_true rfl) rfl ?_
    refine zs_iconst (pc := 23) dX_fadingWithin_23 zi_0 ?_
    refine zs_istore_n (pc := 24) (ls2 := [_, _, _, _]) dX_fadingWithin_24 (Nat.le_of_ble_eq_true rfl) rfl ?_
    refine lp_X_fadingWithin (v := w) hl hd hx hC hp hA hI hB (by omega) ?_ (g 0) 0 rfl
    refine zs_iload_n (pc := 61) dX_fadingWithin_61 rfl ?_
    exact zs_iret (pc := 62) dX_fadingWithin_62 rfl rfl (by omega) (by omega) (⟨zOut.y, zfr.rf, hX9⟩)
/-! the digits shared with any code -/
def zmc (q : Nat → Nat) (c : Nat) : Nat → Nat
  | 0 => 0
  | j + 1 => max (zmc q c j) (zcom c (q (6 + j)))
def zme (g : Nat → Nat) (c : Nat) : Nat → Nat
  | 0 => 0
  | i + 1 => max (zme g c i) (zmc (eg g i) c (eg g i 5))
theorem zmc_le {q : Nat → Nat} {c : Nat} : ∀ j, zmc q c j ≤ 3 := by
  intro j
  induction j with
  | zero => exact Nat.zero_le _
  | succ j ih =>
    have := zcom_le (a := c) (b := q (6 + j))
    show max _ _ ≤ 3
    omega
theorem zme_le {g : Nat → Nat} {c : Nat} : ∀ i, zme g c i ≤ 3 := by
  intro i
  induction i with
  | zero => exact Nat.zero_le _
  | succ i ih =>
    have := zmc_le (q := eg g i) (c := c) (eg g i 5)
    show max _ _ ≤ 3
    omega
theorem zmc_y {q : Nat → Nat} {c L : Nat} (hL : 1 ≤ L) : ∀ j, L ≤ zmc q c j ↔ ∃ m, m < j ∧ L ≤ zcom c (q (6 + m)) := by
  intro j
  induction j with
  | zero => exact ⟨fun h => absurd h (by show ¬ L ≤ 0; omega), fun ⟨m, h, _⟩ => absurd h (by omega)⟩
  | succ j ih =>
    show L ≤ max _ _ ↔ _
    constructor
    · intro h
      by_cases h1 : L ≤ zmc q c j
      · obtain ⟨m, m1, m2⟩ := ih.mp h1
        exact ⟨m, by omega, m2⟩
      · exact ⟨j, by omega, by omega⟩
    · rintro ⟨m, m1, m2⟩
      by_cases e : m = j
      · subst e; omega
      · have := ih.mpr ⟨m, by omega, m2⟩
        omega
theorem zme_y {g : Nat → Nat} {c L : Nat} (hL : 1 ≤ L) : ∀ i, L ≤ zme g c i ↔ ∃ k, k < i ∧ ∃ m, m < eg g k 5 ∧ L ≤ zcom c (eg g k (6 + m)) := by
  intro i
  induction i with
  | zero => exact ⟨fun h => absurd h (by show ¬ L ≤ 0; omega), fun ⟨m, h, _⟩ => absurd h (by omega)⟩
  | succ i ih =>
    have hj := zmc_y (q := eg g i) (c := c) hL (eg g i 5)
    show L ≤ max _ _ ↔ _
    constructor
    · intro h
      by_cases h1 : L ≤ zme g c i
      · obtain ⟨k, k1, k2⟩ := ih.mp h1
        exact ⟨k, by omega, k2⟩
      · exact ⟨i, by omega, hj.mp (by omega)⟩
    · rintro ⟨k, k1, k2⟩
      by_cases e : k = i
      · subst e
        have := hj.mpr k2
        omega
      · have := ih.mpr ⟨k, by omega, k2⟩
        omega
theorem zcom_y {a c : Nat} : (3 ≤ zcom c a ↔ zhas a 3 c = true) ∧ (2 ≤ zcom c a ↔ zhas a 2 (c / 10) = true) ∧ (1 ≤ zcom c a ↔ zhas a 1 (c / 100) = true) := by
  have e3 : zhas a 3 c = true ↔ a = c := by rw [zhas_3, beq_iff_eq]
  have e2 : zhas a 2 (c / 10) = true ↔ a / 10 = c / 10 := by
    show (a / 10 ^ 1 == c / 10) = true ↔ _
    rw [beq_iff_eq]
  have e1 : zhas a 1 (c / 100) = true ↔ a / 100 = c / 100 := by
    show (a / 10 ^ 2 == c / 100) = true ↔ _
    rw [beq_iff_eq]
  rw [e1, e2, e3]
  unfold zcom
  (repeat' split) <;> omega
theorem zme_dep {g : Nat → Nat} {c : Nat} : zme g c (g 0) = zdep g c := by
  have y3 := (zme_y (g := g) (c := c) (L := 3) (by decide) (g 0)).trans (Iff.trans (by simp only [zcom_y.1]) (zres_y (g := g) (dn := 3) (v := c)).symm)
  have y2 := (zme_y (g := g) (c := c) (L := 2) (by decide) (g 0)).trans (Iff.trans (by simp only [zcom_y.2.1]) (zres_y (g := g) (dn := 2) (v := c / 10)).symm)
  have y1 := (zme_y (g := g) (c := c) (L := 1) (by decide) (g 0)).trans (Iff.trans (by simp only [zcom_y.2.2]) (zres_y (g := g) (dn := 1) (v := c / 100)).symm)
  have hle := zme_le (g := g) (c := c) (g 0)
  unfold zdep
  (repeat' split) <;> omega
theorem lpi_X_sharedDigitsByScan {Γ : zG} {l : Launch} (hl : l.stackTraces = false) {d : Nat} (hd : 4 ≤ d) {h : zH} {n : Nat} {x st B w i : Nat} {sv : Bool} {er fl : Option Nat} {g : Nat → Nat} {p : Nat → Nat} {Q : Nat → Nat → Nat} {mc ms : Nat} {FN : List Frame → Array Value → State → State → Prop} (hx : h x = some (zXo x st sv er fl)) (hC : CH h (x + 1) p Q (zFg g)) (hp : PM p) (hA : ∀ j, j < g 0 → zAg (Q (p j)) (eg g j)) (hI : IG B g) (hB : B < 2 ^ 20) (hw : w < 1000) (hi : i < g 0) (K : ∀ x5, Z Γ l mX_sharedDigitsByScan d mc ms FN 8 [some (.ref x), some (.int (nI w)), some (.int (nI (zme g w (i + 1)))), some (.int (nI (i + 1))), some (.ref (x + 1 + 2 + 2 * p i)), x5] [] h n 0 0) : ∀ a j, a + j = eg g i 5 → Z Γ l mX_sharedDigitsByScan d mc ms FN 33 [some (.ref x), some (.int (nI w)), some (.int (nI (max (zme g w i) (zmc (eg g i) w j)))), some (.int (nI i)), some (.ref (x + 1 + 2 + 2 * p i)), some (.int (nI j))] [] h n 0 0 := by
  have i0 := hI.1
  have hA1 := hA i hi
  have h5 := hA1.e5
  have he := hC.2.2 (p i) (hp.1 i (by omega))
  have hO := hI.2.2.2.2.2.1 i hi
  have h6 := hI.s6 i hi
  intro a
  induction a with
  | zero =>
    intro j hj
    obtain rfl : j = eg g i 5 := by omega
    refine zs_iload (pc := 33) dX_sharedDigitsByScan_33 rfl ?_
    refine zs_aload (pc := 35) dX_sharedDigitsByScan_35 rfl ?_
    refine zs_get (pc := 37) dX_sharedDigitsByScan_37 fX_147 (by first | exact he.1 | exact he.2) (by rfl) ?_
    refine zn_icmp_ge (pc := 40) 66 dX_sharedDigitsByScan_40 rfl (by omega) (by omega) (fun _ => ?_) (fun h9 => absurd h9 (by omega))
    refine zn_iinc (pc := 66) (ls2 := [_, _, _, _, _, _]) dX_sharedDigitsByScan_66 rfl (Nat.le_of_ble_eq_true rfl) rfl ?_
    refine zs_goto (pc := 69) 8 dX_sharedDigitsByScan_69 rfl ?_
    exact K _
  | succ a ih =>
    intro j hj
    have hz := ih (j + 1) (by omega)
    have hc := hO.2.2.2.2.2.2.1 j (by omega)
    have hq := hA1 (6 + j) (by omega)
    have m1 := zme_le (g := g) (c := w) i
    have m2 := zmc_le (q := eg g i) (c := w) j
    have m3 := zcom_le (a := w) (b := eg g i (6 + j))
    refine zs_iload (pc := 33) dX_sharedDigitsByScan_33 rfl ?_
    refine zs_aload (pc := 35) dX_sharedDigitsByScan_35 rfl ?_
    refine zs_get (pc := 37) dX_sharedDigitsByScan_37 fX_147 (by first | exact he.1 | exact he.2) (by rfl) ?_
    refine zn_icmp_ge (pc := 40) 66 dX_sharedDigitsByScan_40 rfl (by omega) (by omega) (fun h9 => absurd h9 (by omega)) (fun _ => ?_)
    refine zs_iload_n (pc := 43) dX_sharedDigitsByScan_43 rfl ?_
    refine zs_iload_n (pc := 44) dX_sharedDigitsByScan_44 rfl ?_
    refine zs_aload (pc := 45) dX_sharedDigitsByScan_45 rfl ?_
    refine zs_get (pc := 47) dX_sharedDigitsByScan_47 fX_150 (by first | exact he.1 | exact he.2) (by rfl) ?_
    refine zs_iload (pc := 50) dX_sharedDigitsByScan_50 rfl ?_
    refine zn_iald (pc := 52) dX_sharedDigitsByScan_52 (by first | exact he.1 | exact he.2) (by omega) (by first | decide | assumption) ?_
    rw [hq]
    refine zcS1_2 (pc := 53) (d2 := d - 1) (s_X_commonDigits hl hw hc) dX_sharedDigitsByScan_53 kX_210 mdX_commonDigits msX_commonDigits rfl (Nat.le_of_ble_eq_true rfl) (by omega) (by omega) (by omega) ?_
    refine zn_mmax (pc := 56) dX_sharedDigitsByScan_56 kX_213 (Nat.le_of_ble_eq_true rfl) (by omega) (by omega) (by omega) (by omega) ?_
    refine zs_istore_n (pc := 59) (ls2 := [_, _, _, _, _, _]) dX_sharedDigitsByScan_59 (Nat.le_of_ble_eq_true rfl) rfl ?_
    refine zn_iinc (pc := 60) (ls2 := [_, _, _, _, _, _]) dX_sharedDigitsByScan_60 rfl (Nat.le_of_ble_eq_true rfl) rfl ?_
    refine zs_goto (pc := 63) 33 dX_sharedDigitsByScan_63 rfl ?_
    have e : max (max (zme g w i) (zmc (eg g i) w j)) (zcom w (eg g i (6 + j))) = max (zme g w i) (zmc (eg g i) w (j + 1)) := by
      show _ = max _ (max _ _)
      omega
    rw [e]
    exact hz
theorem lp_X_sharedDigitsByScan {Γ : zG} {l : Launch} (hl : l.stackTraces = false) {d : Nat} (hd : 4 ≤ d) {h : zH} {n : Nat} {x st B w : Nat} {sv : Bool} {er fl : Option Nat} {g : Nat → Nat} {p : Nat → Nat} {Q : Nat → Nat → Nat} {mc ms : Nat} {FN : List Frame → Array Value → State → State → Prop} (hx : h x = some (zXo x st sv er fl)) (hC : CH h (x + 1) p Q (zFg g)) (hp : PM p) (hA : ∀ j, j < g 0 → zAg (Q (p j)) (eg g j)) (hI : IG B g) (hB : B < 2 ^ 20) (hw : w < 1000) (K : ∀ x4 x5, Z Γ l mX_sharedDigitsByScan d mc ms FN 72 [some (.ref x), some (.int (nI w)), some (.int (nI (zdep g w))), some (.int (nI (g 0))), x4, x5] [] h n 0 0) : ∀ a i, a + i = g 0 → ∀ x4 x5, Z Γ l mX_sharedDigitsByScan d mc ms FN 8 [some (.ref x), some (.int (nI w)), some (.int (nI (zme g w i))), some (.int (nI i)), x4, x5] [] h n 0 0 := by
  have i0 := hI.1
  have e1 : zFg g 1 = g 0 := rfl
  intro a
  induction a with
  | zero =>
    intro i hi x4 x5
    obtain rfl : i = g 0 := by omega
    refine zs_iload_n (pc := 8) dX_sharedDigitsByScan_8 rfl ?_
    refine zs_aload_n (pc := 9) dX_sharedDigitsByScan_9 rfl ?_
    refine zs_get (pc := 10) dX_sharedDigitsByScan_10 fX_12 (by first | exact hx | exact hC.1 | exact hC.2.1) (by rfl) ?_
    refine zs_get (pc := 13) dX_sharedDigitsByScan_13 fX_115 (by first | exact hx | exact hC.1 | exact hC.2.1) (by rfl) ?_
    refine zn_icmp_ge (pc := 16) 72 dX_sharedDigitsByScan_16 rfl (by omega) (by omega) (fun _ => ?_) (fun h9 => absurd h9 (by omega))
    rw [zme_dep]
    exact K x4 x5
  | succ a ih =>
    intro i hi x4 x5
    refine zs_iload_n (pc := 8) dX_sharedDigitsByScan_8 rfl ?_
    refine zs_aload_n (pc := 9) dX_sharedDigitsByScan_9 rfl ?_
    refine zs_get (pc := 10) dX_sharedDigitsByScan_10 fX_12 (by first | exact hx | exact hC.1 | exact hC.2.1) (by rfl) ?_
    refine zs_get (pc := 13) dX_sharedDigitsByScan_13 fX_115 (by first | exact hx | exact hC.1 | exact hC.2.1) (by rfl) ?_
    refine zn_icmp_ge (pc := 16) 72 dX_sharedDigitsByScan_16 rfl (by omega) (by omega) (fun h9 => absurd h9 (by omega)) (fun _ => ?_)
    refine zs_aload_n (pc := 19) dX_sharedDigitsByScan_19 rfl ?_
    refine zs_get (pc := 20) dX_sharedDigitsByScan_20 fX_12 (by first | exact hx | exact hC.1 | exact hC.2.1) (by rfl) ?_
    refine zs_get (pc := 23) dX_sharedDigitsByScan_23 fX_120 (by first | exact hx | exact hC.1 | exact hC.2.1) (by rfl) ?_
    refine zs_iload_n (pc := 26) dX_sharedDigitsByScan_26 rfl ?_
    refine zn_aald (pc := 27) (Or.inl rfl) dX_sharedDigitsByScan_27 (by first | exact hx | exact hC.1 | exact hC.2.1) (by omega) (by decide) (by rfl) ?_
    refine zs_astore (pc := 28) (ls2 := [_, _, _, _, _, _]) dX_sharedDigitsByScan_28 (Nat.le_of_ble_eq_true rfl) rfl ?_
    refine zs_iconst (pc := 30) dX_sharedDigitsByScan_30 zi_0 ?_
    refine zs_istore (pc := 31) (ls2 := [_, _, _, _, _, _]) dX_sharedDigitsByScan_31 (Nat.le_of_ble_eq_true rfl) rfl ?_
    have h9 := lpi_X_sharedDigitsByScan (Γ := Γ) (n := n) (FN := FN) hl hd hx hC hp hA hI hB hw (i := i) (by omega) (fun x5 => ih (i + 1) (by omega) _ x5) (eg g i 5) 0 rfl
    have e : max (zme g w i) (zmc (eg g i) w 0) = zme g w i := Nat.max_eq_left (Nat.zero_le _)
    rw [e] at h9
    exact h9
theorem s_X_sharedDigitsByScan {Γ : zG} {l : Launch} (hl : l.stackTraces = false) {d : Nat} (hd : 4 ≤ d) {h : zH} {n : Nat} {B x c np : Nat} {g T : Nat → Nat} {P : Nat → Nat → Nat} {sv : Option (Nat → Nat)} {er fl : Option Nat} {L : List Nat} (hX : XR B h x g P c sv er fl T np L) (hB : B < 2 ^ 20) (y : Int32) : zC Γ l d mX_sharedDigitsByScan [.ref x, .int y] h n 1 6 (zXq x h n ["", sIA] (aDep g y) (fun h1 => XR B h1 x g P c sv er fl T np L)) := by
  have hX9 := hX; obtain ⟨⟨st, hst, hx, htr⟩, hR, hI, hsv, hH, hrk, hpg, hn60, hTc, hL, hag⟩ := hX; have i0 := hI.1
  obtain ⟨p, Q, hC, hp, hA⟩ := hR
  unfold aDep
  refine zC_of (ls := [some (.ref x), some (.int y), none, none, none, none]) hl (by decide +kernel) rfl (Nat.le_of_ble_eq_true rfl) rfl ?_
  cases hv : zV y 0 999 with
  | false =>
    have hv2 := zV_n (by decide) hv
    rw [if_neg (by decide)]
    refine zs_iload_n (pc := 0) dX_sharedDigitsByScan_0 rfl ?_
    refine zcST_1 (pc := 1) (d2 := d - 1) (s_X_requireCode_n hl (by omega) (fun ⟨c, c1, c2⟩ => hv2 ⟨c, by omega, by omega, c2⟩)) dX_sharedDigitsByScan_1 kX_154 mdX_requireCode msX_requireCode rfl (Nat.le_of_ble_eq_true rfl) (by omega) (by omega) (by omega) rfl (fun n2 hn2 => ?_)
    exact ⟨zOut.n rfl hn2, zfr.rf, hX9⟩
  | true =>
    rw [if_pos rfl]
    obtain ⟨v1, v2, v3⟩ := zV_y hv
    generalize y.toInt.toNat = w at v1 v2 v3 ⊢
    subst v3
    refine zs_iload_n (pc := 0) dX_sharedDigitsByScan_0 rfl ?_
    refine zcS0_1 (pc := 1) (d2 := d - 1) (s_X_requireCode_y hl (by omega) (by omega)) dX_sharedDigitsByScan_1 kX_154 mdX_requireCode msX_requireCode rfl (Nat.le_of_ble_eq_true rfl) (by omega) (by omega) (by omega) ?_
    refine zs_iconst (pc := 4) dX_sharedDigitsByScan_4 zi_0 ?_
    refine zs_istore_n (pc := 5) (ls2 := [_, _, _, _, _, _]) dX_sharedDigitsByScan_5 (Nat.le_of_ble_eq_true rfl) rfl ?_
    refine zs_iconst (pc := 6) dX_sharedDigitsByScan_6 zi_0 ?_
    refine zs_istore_n (pc := 7) (ls2 := [_, _, _, _, _, _]) dX_sharedDigitsByScan_7 (Nat.le_of_ble_eq_true rfl) rfl ?_
    refine lp_X_sharedDigitsByScan (w := w) hl hd hx hC hp hA hI hB (by omega) (fun x4 x5 => ?_) (g 0) 0 rfl _ _
    refine zs_iload_n (pc := 72) dX_sharedDigitsByScan_72 rfl ?_
    exact zs_iret (pc := 73) dX_sharedDigitsByScan_73 rfl rfl (by omega) (by omega) (⟨zOut.y, zfr.rf, hX9⟩)

