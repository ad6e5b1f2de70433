/-! the ranked results and the line -/
def zrkAt (g : Nat → Nat) (dn v j : Nat) : Nat := zfst (fun k => zmt2 g dn v k && (zrk (zmt2 g dn v) (zsc g dn v) (g 0) k == j)) (g 0)
theorem zrkAt_is {g : Nat → Nat} {dn v j k : Nat} (hk : k < g 0) (hm : zmt2 g dn v k = true) (hr : zrk (zmt2 g dn v) (zsc g dn v) (g 0) k = j) : zrkAt g dn v j = k := by
  obtain ⟨f1, f2, f3⟩ := zfst_y (p := fun k => zmt2 g dn v k && (zrk (zmt2 g dn v) (zsc g dn v) (g 0) k == j)) (g 0) (zany_iff.mpr ⟨k, hk, by show (zmt2 g dn v k && (zrk (zmt2 g dn v) (zsc g dn v) (g 0) k == j)) = true; rw [hm, hr, beq_self_eq_true]; rfl⟩)
  have f4 : (zmt2 g dn v (zrkAt g dn v j) && (zrk (zmt2 g dn v) (zsc g dn v) (g 0) (zrkAt g dn v j) == j)) = true := f2
  obtain ⟨f5, f6⟩ := Bool.and_eq_true_iff.mp f4
  exact zrk_inj f1 hk f5 hm ((beq_iff_eq.mp f6).trans hr.symm)
theorem zRG.at {g u : Nat → Nat} {dn v s : Nat} {f : Nat → Int32} (h : zRG g dn v (g 0) s u f) : s = zres g dn v ∧ ∀ j, j < s → zrkAt g dn v j < g 0 ∧ zmt2 g dn v (zrkAt g dn v j) = true ∧ u j = eg g (zrkAt g dn v j) 0 ∧ f j = zscore (eg g (zrkAt g dn v j)) dn v := by
  obtain ⟨h1, h2⟩ := h
  refine ⟨h1, fun j hj => ?_⟩
  obtain ⟨k, k1, k2, k3, k4, k5⟩ := h2 j hj
  rw [zrkAt_is k1 k2 k3]
  exact ⟨k1, k2, k4, k5⟩
def aResAt (g : Nat → Nat) (y z w : Int32) : Nat × Int32 := if zPv y z = true then (if zIx w (zres g y.toInt.toNat z.toInt.toNat) = true then (0, nI (eg g (zrkAt g y.toInt.toNat z.toInt.toNat w.toInt.toNat) 0)) else (2, -1)) else (1, -1)
theorem zfr.x {x r m : Nat} {h h1 : zH} (a : zfr (x + r) m h h1) (hr : r + m ≤ 481) : zfr x 481 h h1 := a.sub (by omega) (by omega)
theorem s_X_resultAt {Γ : zG} {l : Launch} (hl : l.stackTraces = false) {d : Nat} (hd : 5 ≤ d) {h : zH} {n : Nat} {B x c np : Nat} {g T : Nat → Nat} {P : Nat → Nat → Nat} {sv : Option (Nat → Nat)} {er fl : Option Nat} {L : List Nat} (hX : XR B h x g P c sv er fl T np L) (hB : B < 2 ^ 20) (y z w : Int32) : zC Γ l d mX_resultAt [.ref x, .int y, .int z, .int w] h n 1 6 (zXq x h n ["", sIA, sNS] (aResAt g y z w) (fun h1 => XR B h1 x g P c sv er fl T np L)) := by
  have hX9 := hX; obtain ⟨⟨st, hst, hx, htr⟩, hR, hI, hsv, hH, hrk, hpg, hn60, hTc, hL, hag⟩ := hX; have i0 := hI.1
  obtain ⟨u0, f0, s0, hT0⟩ := id hrk
  unfold aResAt
  refine zC_of (ls := [some (.ref x), some (.int y), some (.int z), some (.int w)]) hl (by decide +kernel) rfl (Nat.le_of_ble_eq_true rfl) rfl ?_
  cases hv : zPv y z with
  | false =>
    rw [if_neg (by decide)]
    refine zs_iload_n (pc := 0) dX_resultAt_0 rfl ?_
    refine zs_iload_n (pc := 1) dX_resultAt_1 rfl ?_
    refine zcST_2 (pc := 2) (d2 := d - 1) (s_X_requirePrefix_n hl (by omega) (zPv_n hv)) dX_resultAt_2 kX_161 mdX_requirePrefix msX_requirePrefix rfl (Nat.le_of_ble_eq_true rfl) (by omega) (by omega) (by omega) rfl (fun n2 hn2 => ?_)
    exact ⟨zOut.n rfl hn2, zfr.rf, hX9⟩
  | true =>
    rw [if_pos rfl]
    have hv2 := zPv_y hv
    generalize y.toInt.toNat = dn at hv2 ⊢
    generalize z.toInt.toNat = v at hv2 ⊢
    have hv3 := hv2
    obtain ⟨rfl, rfl, q1, q2⟩ := hv3
    have h3 := z10 q1
    refine zs_iload_n (pc := 0) dX_resultAt_0 rfl ?_
    refine zs_iload_n (pc := 1) dX_resultAt_1 rfl ?_
    refine zcS0_2 (pc := 2) (d2 := d - 1) (s_X_requirePrefix_y hl (by omega) hv2) dX_resultAt_2 kX_161 mdX_requirePrefix msX_requirePrefix rfl (Nat.le_of_ble_eq_true rfl) (by omega) (by omega) (by omega) ?_
    refine zs_aload_n (pc := 5) dX_resultAt_5 rfl ?_
    refine zs_get (pc := 6) dX_resultAt_6 fX_36 (by first | exact hx | exact hx2 | exact hT2.1 | exact hT2.2.1) (by rfl) ?_
    refine zs_aload_n (pc := 9) dX_resultAt_9 rfl ?_
    refine zs_get (pc := 10) dX_resultAt_10 fX_12 (by first | exact hx | exact hx2 | exact hT2.1 | exact hT2.2.1) (by rfl) ?_
    refine zs_iload_n (pc := 13) dX_resultAt_13 rfl ?_
    refine zs_iload_n (pc := 14) dX_resultAt_14 rfl ?_
    refine zcVQ_3 (pc := 15) (d2 := d - 1) (s_R_order hl (by omega) hT0 hR hI hB (by omega) q1 (by omega)) dX_resultAt_15 kX_186 mdR_order miR_order mvR_order rfl (by exact hT0.1) rfl (Nat.le_of_ble_eq_true rfl) (by omega) (by omega) (by omega) (fun v h2 n1 hq => ?_) (fun E h1 n1 hq => absurd hq.1 (by intro q; cases q))
    obtain ⟨hv9, rfl, hf9, u2, f2, s2, hT2, hG2⟩ := hq
    obtain rfl := Sum.inl.inj hv9
    obtain ⟨e2, hat⟩ := hG2.at
    have hz := zres_le (g := g) (dn := dn) (v := v)
    have hx2 : h2 x = some (zXo x st sv.isSome er fl) := by rw [hf9 _ (by omega)]; exact hx
    have hX8 : XR B h2 x g P c sv er fl T np L := ⟨⟨st, hst, hx2, htr.sm (fun q q1 q2 => hf9 q (by omega))⟩, hR.sm (fun q q1 q2 => hf9 q (by omega)), hI, hsv.sm (fun q q1 q2 => hf9 q (by omega)), hH.sm (fun q q1 q2 => hf9 q (by omega)), ⟨u2, f2, s2, hT2⟩, hpg.sm (fun q q1 q2 => hf9 q (by omega)), hn60, hTc, hL.sm (fun q q1 q2 => hf9 q (by omega)), hag.sm (fun q q1 q2 => hf9 q (by omega))⟩
    cases hw : zIx w (zres g dn v) with
    | true =>
      rw [if_pos rfl]
      obtain ⟨w1, w2⟩ := zIx_y hw
      generalize w.toInt.toNat = j at w1 w2 ⊢
      subst w2
      obtain ⟨g1, g2, g3, g4⟩ := hat j (by omega)
      rw [← g3]
      refine zs_iload_n (pc := 18) dX_resultAt_18 rfl ?_
      refine zs_if_lt (pc := 19) 33 dX_resultAt_19 rfl (fun h9 => absurd h9 (nI_pos (by omega))) (fun _ => ?_)
      refine zs_iload_n (pc := 22) dX_resultAt_22 rfl ?_
      refine zs_aload_n (pc := 23) dX_resultAt_23 rfl ?_
      refine zs_get (pc := 24) dX_resultAt_24 fX_36 (by first | exact hx | exact hx2 | exact hT2.1 | exact hT2.2.1) (by rfl) ?_
      refine zs_get (pc := 27) dX_resultAt_27 fX_190 (by first | exact hx | exact hx2 | exact hT2.1 | exact hT2.2.1) (by rfl) ?_
      refine zn_icmp_lt (pc := 30) 43 dX_resultAt_30 rfl (by omega) (by omega) (fun _ => ?_) (fun h9 => absurd h9 (by omega))
      refine zs_aload_n (pc := 43) dX_resultAt_43 rfl ?_
      refine zs_get (pc := 44) dX_resultAt_44 fX_36 (by first | exact hx | exact hx2 | exact hT2.1 | exact hT2.2.1) (by rfl) ?_
      refine zs_get (pc := 47) dX_resultAt_47 fX_193 (by first | exact hx | exact hx2 | exact hT2.1 | exact hT2.2.1) (by rfl) ?_
      refine zs_iload_n (pc := 50) dX_resultAt_50 rfl ?_
      refine zn_iald (pc := 51) dX_resultAt_51 (by first | exact hx | exact hx2 | exact hT2.1 | exact hT2.2.1) (by omega) (by first | decide | assumption) ?_
      exact zs_iret (pc := 52) dX_resultAt_52 rfl rfl (by omega) (by omega) (⟨zOut.y, hf9.x (by decide), hX8⟩)
    | false =>
      rw [if_neg (by decide)]
      rw [← e2] at hw
      refine zs_iload_n (pc := 18) dX_resultAt_18 rfl ?_
      refine zs_if_lt (pc := 19) 33 dX_resultAt_19 rfl (fun hb => ?_) (fun hb => ?_)
      · exact zs_throwN (pc := 33) (text := "no such rank") thNS (by decide) rfl dX_resultAt_33 dX_resultAt_36 dX_resultAt_37 dX_resultAt_39 dX_resultAt_42 (Nat.le_of_ble_eq_true rfl) (by omega) (by omega) (fun n2 hn2 => ⟨zOut.n rfl hn2, hf9.x (by decide), hX8⟩)
      · have hb2 := zIx_n hw hb (by omega)
        refine zs_iload_n (pc := 22) dX_resultAt_22 rfl ?_
        refine zs_aload_n (pc := 23) dX_resultAt_23 rfl ?_
        refine zs_get (pc := 24) dX_resultAt_24 fX_36 (by first | exact hx | exact hx2 | exact hT2.1 | exact hT2.2.1) (by rfl) ?_
        refine zs_get (pc := 27) dX_resultAt_27 fX_190 (by first | exact hx | exact hx2 | exact hT2.1 | exact hT2.2.1) (by rfl) ?_
        refine zs_icmp_lt (pc := 30) 43 dX_resultAt_30 rfl (fun h9 => absurd h9 (hb2)) (fun _ => ?_)
        exact zs_throwN (pc := 33) (text := "no such rank") thNS (by decide) rfl dX_resultAt_33 dX_resultAt_36 dX_resultAt_37 dX_resultAt_39 dX_resultAt_42 (Nat.le_of_ble_eq_true rfl) (by omega) (by omega) (fun n2 hn2 => ⟨zOut.n rfl hn2, hf9.x (by decide), hX8⟩)
/-! what the line says -/
theorem zD_le {m : Nat} (h : m < 10 ^ 7) : zD m ≤ 7 := (zD_ok h).2.1
def ysb (q : Nat → Nat) (dn v : Nat) : Bool := decide (10 * q 1 + 5 * zmany q dn v < q 2)
def ysm (q : Nat → Nat) (dn v : Nat) : Nat := if 10 * q 1 + 5 * zmany q dn v < q 2 then q 2 - (10 * q 1 + 5 * zmany q dn v) else 10 * q 1 + 5 * zmany q dn v - q 2
theorem nI_neg {a b : Nat} (h : a < b) (hb : b < 2 ^ 31) : nI a - nI b = -(nI (b - a)) := by
  rw [← pk_sub (Nat.le_of_lt h), Int32.neg_sub]
theorem zscore_sg {q : Nat → Nat} {dn v : Nat} (h1 : q 1 ≤ 9) (h2 : q 2 ≤ 150) (h5 : q 5 ≤ 6) : zscore q dn v = zsg (ysb q dn v) (ysm q dn v) ∧ zsb (ysb q dn v) (ysm q dn v) ∧ (ysb q dn v = true → 1 ≤ ysm q dn v) := by
  have hm : zmany q dn v ≤ q 5 := zcnt_le _ _
  unfold zscore ysb ysm
  by_cases e : 10 * q 1 + 5 * zmany q dn v < q 2
  · rw [if_pos e, decide_eq_true e]
    exact ⟨nI_neg e (by omega), ⟨by omega, fun _ => by omega⟩, fun _ => by omega⟩
  · rw [if_neg e, decide_eq_false e]
    exact ⟨pk_sub (by omega), ⟨by omega, fun q => by cases q⟩, fun q => by cases q⟩
theorem znum_len {b : Bool} {m : Nat} (h : m < 10 ^ 7) : (znum b m).length ≤ 8 := by
  have h1 := zD_le h
  unfold znum
  rw [List.length_append, ydl_len]
  cases b
  · show 0 + zD m ≤ 8; omega
  · show 1 + zD m ≤ 8; omega
/-- the results in the order of their ranks -/
def zfl (g : Nat → Nat) (dn v : Nat) : Nat → List Nat
  | 0 => []
  | r + 1 => zfl g dn v r ++ (if r = 0 then [] else [44]) ++ znum false (eg g (zrkAt g dn v r) 0) ++ [61] ++ znum (ysb (eg g (zrkAt g dn v r)) dn v) (ysm (eg g (zrkAt g dn v r)) dn v)
theorem IG.sg {B k : Nat} {g : Nat → Nat} (hI : IG B g) (hB : B < 2 ^ 20) (hk : k < g 0) (dn v : Nat) : zscore (eg g k) dn v = zsg (ysb (eg g k) dn v) (ysm (eg g k) dn v) ∧ zsb (ysb (eg g k) dn v) (ysm (eg g k) dn v) ∧ (ysb (eg g k) dn v = true → 1 ≤ ysm (eg g k) dn v) := by
  have h1 := (hI.b hB hk).2.1
  have h2 := (hI.w hk).2
  have h3 := zlife_le (eg g k)
  exact zscore_sg h1 (by omega) (hI.s6 k hk)
theorem zfl_len {B dn v : Nat} {g : Nat → Nat} (hI : IG B g) (hB : B < 2 ^ 20) : ∀ r, (∀ j, j < r → zrkAt g dn v j < g 0) → (zfl g dn v r).length ≤ 18 * r := by
  intro r
  induction r with
  | zero => exact fun _ => Nat.le_refl _
  | succ r ih =>
    intro h
    have h1 := ih (fun j hj => h j (by omega))
    have h2 := h r (by omega)
    have h3 := (hI.b hB h2).1
    have h4 := znum_len (b := false) (m := eg g (zrkAt g dn v r) 0) (by omega)
    have h5 := znum_len (b := ysb (eg g (zrkAt g dn v r)) dn v) (m := ysm (eg g (zrkAt g dn v r)) dn v) (hI.sg hB h2 dn v).2.1.1
    have h6 : (if r = 0 then [] else [44] : List Nat).length ≤ 1 := by split <;> decide
    unfold zfl
    rw [List.length_append, List.length_append, List.length_append, List.length_append]
    show _ + _ + _ + 1 + _ ≤ _
    omega
def aFmtR (g : Nat → Nat) (y z : Int32) : Nat × Int32 := if zPv y z = true then (0, nI (zfl g y.toInt.toNat z.toInt.toNat (zres g y.toInt.toNat z.toInt.toNat)).length) else (1, -1)
def zLr (g : Nat → Nat) (y z : Int32) (L : List Nat) : List Nat := if zPv y z = true then zfl g y.toInt.toNat z.toInt.toNat (zres g y.toInt.toNat z.toInt.toNat) else L
theorem lp_X_formatResults {Γ : zG} {l : Launch} (hl : l.stackTraces = false) {d : Nat} (hd : 5 ≤ d) {h2 : zH} {n : Nat} {B x st dn v s2 : Nat} {sv : Bool} {er fl : Option Nat} {g u2 : Nat → Nat} {f2 : Nat → Int32} {y z : Int32} {mc ms : Nat} {FN : List Frame → Array Value → State → State → Prop} (hI : IG B g) (hB : B < 2 ^ 20) (hx2 : h2 x = some (zXo x st sv er fl)) (hT2 : RH h2 (x + 468) u2 f2 s2) (hat : ∀ j, j < s2 → zrkAt g dn v j < g 0 ∧ zmt2 g dn v (zrkAt g dn v j) = true ∧ u2 j = eg g (zrkAt g dn v j) 0 ∧ f2 j = zscore (eg g (zrkAt g dn v j)) dn v) (hs : s2 ≤ 20) (K : ∀ h9, LH h9 (x + 476) (zfl g dn v s2) → zfr (x + 476) 3 h2 h9 → Z Γ l mX_formatResults d mc ms FN 98 [some (.ref x), some (.int y), some (.int z), some (.int (nI s2))] [] h9 n 0 0) : ∀ i r, i + r = s2 → ∀ h9, LH h9 (x + 476) (zfl g dn v r) → zfr (x + 476) 3 h2 h9 → Z Γ l mX_formatResults d mc ms FN 27 [some (.ref x), some (.int y), some (.int z), some (.int (nI r))] [] h9 n 0 0 := by
  intro i
  induction i with
  | zero =>
    intro r hr h9 hT hfr
    have hx9 := (hfr x (by omega)).trans hx2
    have hT9 := hT2.sm (h1 := h9) (fun q q1 q2 => hfr q (by omega))
    obtain rfl : r = s2 := by omega
    refine zs_iload_n (pc := 27) dX_formatResults_27 rfl ?_
    refine zs_aload_n (pc := 28) dX_formatResults_28 rfl ?_
    refine zs_get (pc := 29) dX_formatResults_29 fX_36 (by first | exact hx9 | exact hT9.1 | exact hT9.2.1 | exact hT9.2.2 | exact hT.o) (by rfl) ?_
    refine zs_get (pc := 32) dX_formatResults_32 fX_190 (by first | exact hx9 | exact hT9.1 | exact hT9.2.1 | exact hT9.2.2 | exact hT.o) (by rfl) ?_
    refine zn_icmp_ge (pc := 35) 98 dX_formatResults_35 rfl (by omega) (by omega) (fun _ => ?_) (fun h9 => absurd h9 (by omega))
    exact K h9 hT hfr
  | succ i ih =>
    intro r hr h9 hT hfr
    have hx9 := (hfr x (by omega)).trans hx2
    have hT9 := hT2.sm (h1 := h9) (fun q q1 q2 => hfr q (by omega))
    obtain ⟨k1, k2, k3, k4⟩ := hat r (by omega)
    have hlen := zfl_len (dn := dn) (v := v) hI hB r (fun j hj => (hat j (by omega)).1)
    obtain ⟨g1, g2, g3⟩ := hI.sg hB k1 dn v
    have hid := (hI.b hB k1).1
    have hzr : zfl g dn v (r + 1) = zfl g dn v r ++ (if r = 0 then [] else [44]) ++ znum false (eg g (zrkAt g dn v r) 0) ++ [61] ++ znum (ysb (eg g (zrkAt g dn v r)) dn v) (ysm (eg g (zrkAt g dn v r)) dn v) := rfl
    have hnl := znum_len (b := false) (m := eg g (zrkAt g dn v r) 0) (by omega)
    have main : ∀ (h9 : zH) (M : List Nat), LH h9 (x + 476) M → zfr (x + 476) 3 h2 h9 → M = zfl g dn v r ++ (if r = 0 then [] else [44]) → M.length ≤ 18 * r + 1 → Z Γ l mX_formatResults d mc ms FN 51 [some (.ref x), some (.int y), some (.int z), some (.int (nI r))] [] h9 n 0 0 := by
      intro h9 M hT hfr hM hMl
      have hx9 := (hfr x (by omega)).trans hx2
      have hT9 := hT2.sm (h1 := h9) (fun q q1 q2 => hfr q (by omega))
      refine zs_aload_n (pc := 51) dX_formatResults_51 rfl ?_
      refine zs_get (pc := 52) dX_formatResults_52 fX_50 (by first | exact hx9 | exact hT9.1 | exact hT9.2.1 | exact hT9.2.2 | exact hT.o) (by rfl) ?_
      refine zs_aload_n (pc := 55) dX_formatResults_55 rfl ?_
      refine zs_get (pc := 56) dX_formatResults_56 fX_36 (by first | exact hx9 | exact hT9.1 | exact hT9.2.1 | exact hT9.2.2 | exact hT.o) (by rfl) ?_
      refine zs_get (pc := 59) dX_formatResults_59 fX_193 (by first | exact hx9 | exact hT9.1 | exact hT9.2.1 | exact hT9.2.2 | exact hT.o) (by rfl) ?_
      refine zs_iload_n (pc := 62) dX_formatResults_62 rfl ?_
      refine zn_iald (pc := 63) dX_formatResults_63 (by first | exact hx9 | exact hT9.1 | exact hT9.2.1 | exact hT9.2.2 | exact hT.o) (by omega) (by first | decide | assumption) ?_
      rw [k3]
      refine zcVQ_1 (pc := 64) (d2 := d - 1) (s_L_putNumber (b := false) hl (by omega) hT ⟨by omega, fun q => by cases q⟩ (fun q => by cases q) (by omega)) dX_formatResults_64 kX_321 mdL_putNumber miL_putNumber mvL_putNumber rfl (by exact hT.o) rfl (Nat.le_of_ble_eq_true rfl) (by omega) (by omega) (by omega) (fun v h1 n1 hq => ?_) (fun E h1 n1 hq => absurd hq.1 (by intro q; cases q))
      obtain ⟨hv9, rfl, hf9, hT⟩ := hq
      obtain rfl := Sum.inl.inj hv9
      have hfr := hfr.tr (hf9.sub (r2 := x + 476) (m2 := 3) (by omega) (by omega))
      have hx9 := (hfr x (by omega)).trans hx2
      have hT9 := hT2.sm (fun q q1 q2 => hfr q (by omega))
      refine zs_aload_n (pc := 67) dX_formatResults_67 rfl ?_
      refine zs_get (pc := 68) dX_formatResults_68 fX_50 (by first | exact hx9 | exact hT9.1 | exact hT9.2.1 | exact hT9.2.2 | exact hT.o) (by rfl) ?_
      refine zs_bipush (pc := 71) dX_formatResults_71 (zi_b 61 (by decide)) ?_
      refine zcVQ_1 (pc := 73) (d2 := d - 1) (s_L_put hl hT (by rw [List.length_append]; omega) (by decide)) dX_formatResults_73 kX_311 mdL_put miL_put mvL_put rfl (by exact hT.o) rfl (Nat.le_of_ble_eq_true rfl) (by omega) (by omega) (by omega) (fun v h1 n1 hq => ?_) (fun E h1 n1 hq => absurd hq.1 (by intro q; cases q))
      obtain ⟨hv9, rfl, hf9, hT⟩ := hq
      obtain rfl := Sum.inl.inj hv9
      have hfr := hfr.tr (hf9.sub (r2 := x + 476) (m2 := 3) (by omega) (by omega))
      have hx9 := (hfr x (by omega)).trans hx2
      have hT9 := hT2.sm (fun q q1 q2 => hfr q (by omega))
      refine zs_aload_n (pc := 76) dX_formatResults_76 rfl ?_
      refine zs_get (pc := 77) dX_formatResults_77 fX_50 (by first | exact hx9 | exact hT9.1 | exact hT9.2.1 | exact hT9.2.2 | exact hT.o) (by rfl) ?_
      refine zs_aload_n (pc := 80) dX_formatResults_80 rfl ?_
      refine zs_get (pc := 81) dX_formatResults_81 fX_36 (by first | exact hx9 | exact hT9.1 | exact hT9.2.1 | exact hT9.2.2 | exact hT.o) (by rfl) ?_
      refine zs_get (pc := 84) dX_formatResults_84 fX_324 (by first | exact hx9 | exact hT9.1 | exact hT9.2.1 | exact hT9.2.2 | exact hT.o) (by rfl) ?_
      refine zs_iload_n (pc := 87) dX_formatResults_87 rfl ?_
      refine zr_iald (pc := 88) dX_formatResults_88 (by first | exact hx9 | exact hT9.1 | exact hT9.2.1 | exact hT9.2.2 | exact hT.o) (by omega) (by decide) ?_
      rw [k4, g1]
      refine zcVQ_1 (pc := 89) (d2 := d - 1) (s_L_putNumber hl (by omega) hT g2 g3 (by rw [List.length_append, List.length_append]; show _ + _ + 1 + 8 ≤ 480; omega)) dX_formatResults_89 kX_321 mdL_putNumber miL_putNumber mvL_putNumber rfl (by exact hT.o) rfl (Nat.le_of_ble_eq_true rfl) (by omega) (by omega) (by omega) (fun v h1 n1 hq => ?_) (fun E h1 n1 hq => absurd hq.1 (by intro q; cases q))
      obtain ⟨hv9, rfl, hf9, hT⟩ := hq
      obtain rfl := Sum.inl.inj hv9
      have hfr := hfr.tr (hf9.sub (r2 := x + 476) (m2 := 3) (by omega) (by omega))
      have hx9 := (hfr x (by omega)).trans hx2
      have hT9 := hT2.sm (fun q q1 q2 => hfr q (by omega))
      rw [hM, ← hzr] at hT
      refine zn_iinc (pc := 92) (ls2 := [_, _, _, _]) dX_formatResults_92 rfl (Nat.le_of_ble_eq_true rfl) rfl ?_
      refine zs_goto (pc := 95) 27 dX_formatResults_95 rfl ?_
      exact ih (r + 1) (by omega) _ hT hfr
    by_cases e : r = 0
    · refine zs_iload_n (pc := 27) dX_formatResults_27 rfl ?_
      refine zs_aload_n (pc := 28) dX_formatResults_28 rfl ?_
      refine zs_get (pc := 29) dX_formatResults_29 fX_36 (by first | exact hx9 | exact hT9.1 | exact hT9.2.1 | exact hT9.2.2 | exact hT.o) (by rfl) ?_
      refine zs_get (pc := 32) dX_formatResults_32 fX_190 (by first | exact hx9 | exact hT9.1 | exact hT9.2.1 | exact hT9.2.2 | exact hT.o) (by rfl) ?_
      refine zn_icmp_ge (pc := 35) 98 dX_formatResults_35 rfl (by omega) (by omega) (fun h9 => absurd h9 (by omega)) (fun _ => ?_)
      refine zs_iload_n (pc := 38) dX_formatResults_38 rfl ?_
      refine zn_if_le (pc := 39) 51 dX_formatResults_39 rfl (by omega) (fun _ => ?_) (fun h9 => absurd h9 (by omega))
      exact main _ _ hT hfr (by rw [if_pos e, List.append_nil]) (by omega)
    · refine zs_iload_n (pc := 27) dX_formatResults_27 rfl ?_
      refine zs_aload_n (pc := 28) dX_formatResults_28 rfl ?_
      refine zs_get (pc := 29) dX_formatResults_29 fX_36 (by first | exact hx9 | exact hT9.1 | exact hT9.2.1 | exact hT9.2.2 | exact hT.o) (by rfl) ?_
      refine zs_get (pc := 32) dX_formatResults_32 fX_190 (by first | exact hx9 | exact hT9.1 | exact hT9.2.1 | exact hT9.2.2 | exact hT.o) (by rfl) ?_
      refine zn_icmp_ge (pc := 35) 98 dX_formatResults_35 rfl (by omega) (by omega) (fun h9 => absurd h9 (by omega)) (fun _ => ?_)
      refine zs_iload_n (pc := 38) dX_formatResults_38 rfl ?_
      refine zn_if_le (pc := 39) 51 dX_formatResults_39 rfl (by omega) (fun h9 => absurd h9 (by omega)) (fun _ => ?_)
      refine zs_aload_n (pc := 42) dX_formatResults_42 rfl ?_
      refine zs_get (pc := 43) dX_formatResults_43 fX_50 (by first | exact hx9 | exact hT9.1 | exact hT9.2.1 | exact hT9.2.2 | exact hT.o) (by rfl) ?_
      refine zs_bipush (pc := 46) dX_formatResults_46 (zi_b 44 (by decide)) ?_
      refine zcVQ_1 (pc := 48) (d2 := d - 1) (s_L_put hl hT (by omega) (by decide)) dX_formatResults_48 kX_311 mdL_put miL_put mvL_put rfl (by exact hT.o) rfl (Nat.le_of_ble_eq_true rfl) (by omega) (by omega) (by omega) (fun v h1 n1 hq => ?_) (fun E h1 n1 hq => absurd hq.1 (by intro q; cases q))
      obtain ⟨hv9, rfl, hf9, hT⟩ := hq
      obtain rfl := Sum.inl.inj hv9
      have hfr := hfr.tr (hf9.sub (r2 := x + 476) (m2 := 3) (by omega) (by omega))
      have hx9 := (hfr x (by omega)).trans hx2
      have hT9 := hT2.sm (fun q q1 q2 => hfr q (by omega))
      exact main _ _ hT hfr (by rw [if_neg e]) (by rw [List.length_append]; show _ + 1 ≤ _; omega)
theorem s_X_formatResults {Γ : zG} {l : Launch} (hl : l.stackTraces = false) {d : Nat} (hd : 5 ≤ d) {h : zH} {n : Nat} {B x c np : Nat} {g T : Nat → Nat} {P : Nat → Nat → Nat} {sv : Option (Nat → Nat)} {er fl : Option Nat} {L : List Nat} (hX : XR B h x g P c sv er fl T np L) (hB : B < 2 ^ 20) (y z : Int32) : zC Γ l d mX_formatResults [.ref x, .int y, .int z] h n 1 6 (zXq x h n ["", sIA] (aFmtR g y z) (fun h1 => XR B h1 x g P c sv er fl T np (zLr g y z L))) := by
  have hX9 := hX; obtain ⟨⟨st, hst, hx, htr⟩, hR, hI, hsv, hH, hrk, hpg, hn60, hTc, hL, hag⟩ := hX; have i0 := hI.1
  obtain ⟨u0, f0, s0, hT0⟩ := id hrk
  unfold aFmtR zLr
  refine zC_of (ls := [some (.ref x), some (.int y), some (.int z), none]) hl (by decide +kernel) rfl (Nat.le_of_ble_eq_true rfl) rfl ?_
  cases hv : zPv y z with
  | false =>
    rw [if_neg (by decide), if_neg (by decide)]
    refine zs_iload_n (pc := 0) dX_formatResults_0 rfl ?_
    refine zs_iload_n (pc := 1) dX_formatResults_1 rfl ?_
    refine zcST_2 (pc := 2) (d2 := d - 1) (s_X_requirePrefix_n hl (by omega) (zPv_n hv)) dX_formatResults_2 kX_161 mdX_requirePrefix msX_requirePrefix rfl (Nat.le_of_ble_eq_true rfl) (by omega) (by omega) (by omega) rfl (fun n2 hn2 => ?_)
    exact ⟨zOut.n rfl hn2, zfr.rf, hX9⟩
  | true =>
    rw [if_pos rfl, if_pos rfl]
    have hv2 := zPv_y hv
    generalize y.toInt.toNat = dn at hv2 ⊢
    generalize z.toInt.toNat = v at hv2 ⊢
    have hv3 := hv2
    obtain ⟨rfl, rfl, q1, q2⟩ := hv3
    have h3 := z10 q1
    refine zs_iload_n (pc := 0) dX_formatResults_0 rfl ?_
    refine zs_iload_n (pc := 1) dX_formatResults_1 rfl ?_
    refine zcS0_2 (pc := 2) (d2 := d - 1) (s_X_requirePrefix_y hl (by omega) hv2) dX_formatResults_2 kX_161 mdX_requirePrefix msX_requirePrefix rfl (Nat.le_of_ble_eq_true rfl) (by omega) (by omega) (by omega) ?_
    refine zs_aload_n (pc := 5) dX_formatResults_5 rfl ?_
    refine zs_get (pc := 6) dX_formatResults_6 fX_36 (by first | exact hx | exact hx2) (by rfl) ?_
    refine zs_aload_n (pc := 9) dX_formatResults_9 rfl ?_
    refine zs_get (pc := 10) dX_formatResults_10 fX_12 (by first | exact hx | exact hx2) (by rfl) ?_
    refine zs_iload_n (pc := 13) dX_formatResults_13 rfl ?_
    refine zs_iload_n (pc := 14) dX_formatResults_14 rfl ?_
    refine zcVQ_3 (pc := 15) (d2 := d - 1) (s_R_order hl (by omega) hT0 hR hI hB (by omega) q1 (by omega)) dX_formatResults_15 kX_186 mdR_order miR_order mvR_order rfl (by first | exact hT0.1 | exact hL2.o) rfl (Nat.le_of_ble_eq_true rfl) (by omega) (by omega) (by omega) (fun v h2 n1 hq => ?_) (fun E h1 n1 hq => absurd hq.1 (by intro q; cases q))
    obtain ⟨hv9, rfl, hf9, u2, f2, s2, hT2, hG2⟩ := hq
    obtain rfl := Sum.inl.inj hv9
    obtain ⟨e2, hat⟩ := hG2.at
    have hz := zres_le (g := g) (dn := dn) (v := v)
    have hf2 := hf9
    have hx2 : h2 x = some (zXo x st sv.isSome er fl) := by rw [hf9 _ (by omega)]; exact hx
    have hL2 := hL.sm (h1 := h2) (fun q q1 q2 => hf9 q (by omega))
    refine zs_aload_n (pc := 18) dX_formatResults_18 rfl ?_
    refine zs_get (pc := 19) dX_formatResults_19 fX_50 (by first | exact hx | exact hx2) (by rfl) ?_
    refine zcVQ_0 (pc := 22) (d2 := d - 1) (s_L_clear hl hL2) dX_formatResults_22 kX_304 mdL_clear miL_clear mvL_clear rfl (by first | exact hT0.1 | exact hL2.o) rfl (Nat.le_of_ble_eq_true rfl) (by omega) (by omega) (by omega) (fun v h1 n1 hq => ?_) (fun E h1 n1 hq => absurd hq.1 (by intro q; cases q))
    obtain ⟨hv9, rfl, hf9, hT⟩ := hq
    obtain rfl := Sum.inl.inj hv9
    refine zs_iconst (pc := 25) dX_formatResults_25 zi_0 ?_
    refine zs_istore_n (pc := 26) (ls2 := [_, _, _, _]) dX_formatResults_26 (Nat.le_of_ble_eq_true rfl) rfl ?_
    refine lp_X_formatResults (dn := dn) (v := v) hl hd hI hB hx2 hT2 hat (by omega) (fun h9 g1 g2 => ?_) s2 0 rfl h1 hT hf9
    have hx9 := (g2 x (by omega)).trans hx2
    have hT := g1
    rw [e2] at g1 hT
    have hk9 : ∀ q, ¬ (x + 468 ≤ q ∧ q < x + 471) → ¬ (x + 476 ≤ q ∧ q < x + 479) → h9 q = h q := fun q a1 a2 => (g2 q (by omega)).trans (hf2 q (by omega))
    refine zs_aload_n (pc := 98) dX_formatResults_98 rfl ?_
    refine zs_get (pc := 99) dX_formatResults_99 fX_50 (by first | exact hx9 | exact hT.o) (by rfl) ?_
    refine zs_get (pc := 102) dX_formatResults_102 fX_318 (by first | exact hx9 | exact hT.o) (by rfl) ?_
    exact zs_iret (pc := 105) dX_formatResults_105 rfl rfl (by omega) (by omega) (⟨zOut.y, fun q hq => hk9 q (by omega) (by omega), ⟨st, hst, hx9, htr.sm (fun q q1 q2 => hk9 q (by omega) (by omega))⟩, hR.sm (fun q q1 q2 => hk9 q (by omega) (by omega)), hI, hsv.sm (fun q q1 q2 => hk9 q (by omega) (by omega)), hH.sm (fun q q1 q2 => hk9 q (by omega) (by omega)), ⟨u2, f2, s2, hT2.sm (fun q q1 q2 => g2 q (by omega))⟩, hpg.sm (fun q q1 q2 => hk9 q (by omega) (by omega)), hn60, hTc, hT, hag.sm (fun q q1 q2 => hk9 q (by omega) (by omega))⟩)

