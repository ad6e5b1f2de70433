/-! numbers with a point -/
def zOutV (Es : List String) (a : Nat × Value) (n : Nat) (o : Option Value ⊕ String) (n1 : Nat) : Prop := (a.1 = 0 → o = .inl (some a.2) ∧ n1 = n) ∧ (a.1 ≠ 0 → o = .inr (Es.getD a.1 "") ∧ n ≤ n1)
def zXqV (x : Nat) (h : zH) (n : Nat) (Es : List String) (a : Nat × Value) (R : zH → Prop) : zQ := fun o h1 n1 => zOutV Es a n o n1 ∧ zfr x 481 h h1 ∧ R h1
theorem zOutV.y {Es : List String} {v : Value} {n : Nat} : zOutV Es (0, v) n (.inl (some v)) n := ⟨fun _ => ⟨rfl, rfl⟩, fun h => absurd rfl h⟩
theorem zOutV.n {Es : List String} {v : Value} {n n1 k : Nat} {E : String} (hE : Es.getD (k + 1) "" = E) (hn : n ≤ n1) : zOutV Es (k + 1, v) n (.inr E) n1 := ⟨fun h => absurd h (by show ¬ k + 1 = 0; omega), fun _ => ⟨by rw [hE], hn⟩⟩
theorem zOutV.l {Es : List String} {a : Nat × Value} {n n1 : Nat} {v : Option Value} (h : zOutV Es a n (.inl v) n1) : a.1 = 0 ∧ v = some a.2 ∧ n1 = n := by
  by_cases e : a.1 = 0
  · obtain ⟨h1, h2⟩ := h.1 e
    exact ⟨e, Sum.inl.inj h1, h2⟩
  · have h1 := (h.2 e).1
    cases h1
theorem zOutV.r {Es : List String} {a : Nat × Value} {n n1 : Nat} {E : String} (h : zOutV Es a n (.inr E) n1) : a.1 ≠ 0 ∧ E = Es.getD a.1 "" ∧ n ≤ n1 := by
  by_cases e : a.1 = 0
  · have h1 := (h.1 e).1
    cases h1
  · obtain ⟨h1, h2⟩ := h.2 e
    exact ⟨e, Sum.inr.inj h1, h2⟩
def yMean (g : Nat → Nat) : UInt64 := FP.ddiv (FP.i2d (nI (zsum (fun k => eg g k 5) (g 0)))) (FP.i2d (nI (g 0)))
def yShr (g : Nat → Nat) : UInt32 := FP.fdiv (FP.i2f (nI (g 5))) (FP.i2f (nI (g 1)))
def aMean (g : Nat → Nat) : Nat × Value := if g 0 = 0 then (1, .null) else (0, .double (yMean g))
def aShr (g : Nat → Nat) : Nat × Value := if g 1 = 0 then (1, .null) else (0, .float (yShr g))
theorem lp_X_meanCodes {Γ : zG} {l : Launch} (hl : l.stackTraces = false) {d : Nat} {h : zH} {n : Nat} {x st B : Nat} {sv : Bool} {er fl : Option Nat} {g : Nat → Nat} {p : Nat → Nat} {Q : Nat → Nat → Nat} {mc ms : Nat} {FN : List Frame → Array Value → State → State → Prop} (hx : h x = some (zXo x st sv er fl)) (hC : CH h (x + 1) p Q (zFg g)) (hp : PM p) (hA : ∀ j, j < g 0 → zAg (Q (p j)) (eg g j)) (hI : IG B g) (K : Z Γ l mX_meanCodes d mc ms FN 36 [some (.ref x), some (.int (nI (zsum (fun k => eg g k 5) (g 0)))), some (.int (nI (g 0)))] [] h n 0 0) : ∀ i j, i + j = g 0 → Z Γ l mX_meanCodes d mc ms FN 4 [some (.ref x), some (.int (nI (zsum (fun k => eg g k 5) j))), some (.int (nI j))] [] h n 0 0 := by
  have i0 := hI.1
  have e1 : zFg g 1 = g 0 := rfl
  intro i
  induction i with
  | zero =>
    intro j hj
    obtain rfl : j = g 0 := by omega
    refine zs_iload_n (pc := 4) dX_meanCodes_4 rfl ?_
    refine zs_aload_n (pc := 5) dX_meanCodes_5 rfl ?_
    refine zs_get (pc := 6) dX_meanCodes_6 fX_12 (by first | exact hx | exact hC.1 | exact hC.2.1 | exact he.1) (by rfl) ?_
    refine zs_get (pc := 9) dX_meanCodes_9 fX_115 (by first | exact hx | exact hC.1 | exact hC.2.1 | exact he.1) (by rfl) ?_
    refine zn_icmp_ge (pc := 12) 36 dX_meanCodes_12 rfl (by omega) (by omega) (fun _ => ?_) (fun h9 => absurd h9 (by omega))
    exact K
  | succ i ih =>
    intro j hj
    have hz := ih (j + 1) (by omega)
    have he := hC.2.2 (p j) (hp.1 j (by omega))
    have h5 := (hA j (by omega)).e5
    refine zs_iload_n (pc := 4) dX_meanCodes_4 rfl ?_
    refine zs_aload_n (pc := 5) dX_meanCodes_5 rfl ?_
    refine zs_get (pc := 6) dX_meanCodes_6 fX_12 (by first | exact hx | exact hC.1 | exact hC.2.1 | exact he.1) (by rfl) ?_
    refine zs_get (pc := 9) dX_meanCodes_9 fX_115 (by first | exact hx | exact hC.1 | exact hC.2.1 | exact he.1) (by rfl) ?_
    refine zn_icmp_ge (pc := 12) 36 dX_meanCodes_12 rfl (by omega) (by omega) (fun h9 => absurd h9 (by omega)) (fun _ => ?_)
    refine zs_iload_n (pc := 15) dX_meanCodes_15 rfl ?_
    refine zs_aload_n (pc := 16) dX_meanCodes_16 rfl ?_
    refine zs_get (pc := 17) dX_meanCodes_17 fX_12 (by first | exact hx | exact hC.1 | exact hC.2.1 | exact he.1) (by rfl) ?_
    refine zs_get (pc := 20) dX_meanCodes_20 fX_120 (by first | exact hx | exact hC.1 | exact hC.2.1 | exact he.1) (by rfl) ?_
    refine zs_iload_n (pc := 23) dX_meanCodes_23 rfl ?_
    refine zn_aald (pc := 24) (Or.inl rfl) dX_meanCodes_24 (by first | exact hx | exact hC.1 | exact hC.2.1 | exact he.1) (by omega) (by decide) (by rfl) ?_
    refine zs_get (pc := 25) dX_meanCodes_25 fX_147 (by first | exact hx | exact hC.1 | exact hC.2.1 | exact he.1) (by rfl) ?_
    rw [h5]
    refine zn_iadd (pc := 28) dX_meanCodes_28 ?_
    refine zs_istore_n (pc := 29) (ls2 := [_, _, _]) dX_meanCodes_29 (Nat.le_of_ble_eq_true rfl) rfl ?_
    refine zn_iinc (pc := 30) (ls2 := [_, _, _]) dX_meanCodes_30 rfl (Nat.le_of_ble_eq_true rfl) rfl ?_
    refine zs_goto (pc := 33) 4 dX_meanCodes_33 rfl ?_
    exact hz
theorem s_X_meanCodes {Γ : zG} {l : Launch} (hl : l.stackTraces = false) {d : Nat} (hd : 4 ≤ d) {h : zH} {n : Nat} {B x c np : Nat} {g T : Nat → Nat} {P : Nat → Nat → Nat} {sv : Option (Nat → Nat)} {er fl : Option Nat} {L : List Nat} (hX : XR B h x g P c sv er fl T np L) (hB : B < 2 ^ 20) : zC Γ l d mX_meanCodes [.ref x] h n 1 6 (zXqV x h n ["", sAR] (aMean g) (fun h1 => XR B h1 x g P c sv er fl T np L)) := by
  have hX9 := hX; obtain ⟨⟨st, hst, hx, htr⟩, hR, hI, hsv, hH, hrk, hpg, hn60, hTc, hL, hag⟩ := hX; have i0 := hI.1
  obtain ⟨p, Q, hC, hp, hA⟩ := hR
  have e1 : zFg g 1 = g 0 := rfl
  unfold aMean
  refine zC_of (ls := [some (.ref x), none, none]) hl (by decide +kernel) rfl (Nat.le_of_ble_eq_true rfl) rfl ?_
  refine zs_iconst (pc := 0) dX_meanCodes_0 zi_0 ?_
  refine zs_istore_n (pc := 1) (ls2 := [_, _, _]) dX_meanCodes_1 (Nat.le_of_ble_eq_true rfl) rfl ?_
  refine zs_iconst (pc := 2) dX_meanCodes_2 zi_0 ?_
  refine zs_istore_n (pc := 3) (ls2 := [_, _, _]) dX_meanCodes_3 (Nat.le_of_ble_eq_true rfl) rfl ?_
  refine lp_X_meanCodes hl hx hC hp hA hI ?_ (g 0) 0 rfl
  by_cases e : g 0 = 0
  · rw [if_pos e]
    refine zs_aload_n (pc := 36) dX_meanCodes_36 rfl ?_
    refine zs_get (pc := 37) dX_meanCodes_37 fX_12 (by first | exact hx | exact hC.1 | exact hC.2.1 | exact he.1) (by rfl) ?_
    refine zs_get (pc := 40) dX_meanCodes_40 fX_115 (by first | exact hx | exact hC.1 | exact hC.2.1 | exact he.1) (by rfl) ?_
    refine zn_if_ne (pc := 43) 57 dX_meanCodes_43 rfl (by omega) (fun h9 => absurd h9 (by omega)) (fun _ => ?_)
    exact zs_throwW (pc := 46) (text := "no entries") thAR (by decide) rfl dX_meanCodes_46 dX_meanCodes_49 dX_meanCodes_50 dX_meanCodes_53 dX_meanCodes_56 (Nat.le_of_ble_eq_true rfl) (by omega) (by omega) (fun n2 hn2 => ⟨zOutV.n rfl hn2, zfr.rf, hX9⟩)
  · rw [if_neg e]
    have hne : nI (g 0) ≠ 0 := nI_ne (by omega) (by decide) e
    refine zs_aload_n (pc := 36) dX_meanCodes_36 rfl ?_
    refine zs_get (pc := 37) dX_meanCodes_37 fX_12 (by first | exact hx | exact hC.1 | exact hC.2.1 | exact he.1) (by rfl) ?_
    refine zs_get (pc := 40) dX_meanCodes_40 fX_115 (by first | exact hx | exact hC.1 | exact hC.2.1 | exact he.1) (by rfl) ?_
    refine zn_if_ne (pc := 43) 57 dX_meanCodes_43 rfl (by omega) (fun _ => ?_) (fun h9 => absurd h9 (by omega))
    refine zs_iload_n (pc := 57) dX_meanCodes_57 rfl ?_
    refine zs_i2d (pc := 58) dX_meanCodes_58 ?_
    refine zs_aload_n (pc := 59) dX_meanCodes_59 rfl ?_
    refine zs_get (pc := 60) dX_meanCodes_60 fX_12 (by first | exact hx | exact hC.1 | exact hC.2.1 | exact he.1) (by rfl) ?_
    refine zs_get (pc := 63) dX_meanCodes_63 fX_115 (by first | exact hx | exact hC.1 | exact hC.2.1 | exact he.1) (by rfl) ?_
    refine zs_i2d (pc := 66) dX_meanCodes_66 ?_
    refine zs_ddiv (pc := 67) dX_meanCodes_67 (ynn64 (ydd_n hne)) ?_
    exact zs_dret (pc := 68) dX_meanCodes_68 rfl (by omega) (by omega) (⟨zOutV.y, zfr.rf, hX9⟩)
theorem s_X_fadedShare {Γ : zG} {l : Launch} (hl : l.stackTraces = false) {d : Nat} (hd : 4 ≤ d) {h : zH} {n : Nat} {B x c np : Nat} {g T : Nat → Nat} {P : Nat → Nat → Nat} {sv : Option (Nat → Nat)} {er fl : Option Nat} {L : List Nat} (hX : XR B h x g P c sv er fl T np L) (hB : B < 2 ^ 20) : zC Γ l d mX_fadedShare [.ref x] h n 1 6 (zXqV x h n ["", sAR] (aShr g) (fun h1 => XR B h1 x g P c sv er fl T np L)) := by
  have hX9 := hX; obtain ⟨⟨st, hst, hx, htr⟩, hR, hI, hsv, hH, hrk, hpg, hn60, hTc, hL, hag⟩ := hX; have i0 := hI.1
  obtain ⟨p, Q, hC, hp, hA⟩ := hR
  have i1 := hI.2.1
  have e4 : zFg g 4 = g 1 := rfl
  unfold aShr
  refine zC_of (ls := [some (.ref x)]) hl (by decide +kernel) rfl (Nat.le_of_ble_eq_true rfl) rfl ?_
  by_cases e : g 1 = 0
  · rw [if_pos e]
    refine zs_aload_n (pc := 0) dX_fadedShare_0 rfl ?_
    refine zs_get (pc := 1) dX_fadedShare_1 fX_12 (by first | exact hx | exact hC.1 | exact hC.2.1 | exact he.1) (by rfl) ?_
    refine zs_get (pc := 4) dX_fadedShare_4 fX_255 (by first | exact hx | exact hC.1 | exact hC.2.1 | exact he.1) (by rfl) ?_
    refine zn_if_ne (pc := 7) 21 dX_fadedShare_7 rfl (by omega) (fun h9 => absurd h9 (by omega)) (fun _ => ?_)
    exact zs_throwW (pc := 10) (text := "no entry has been added") thAR (by decide) rfl dX_fadedShare_10 dX_fadedShare_13 dX_fadedShare_14 dX_fadedShare_17 dX_fadedShare_20 (Nat.le_of_ble_eq_true rfl) (by omega) (by omega) (fun n2 hn2 => ⟨zOutV.n rfl hn2, zfr.rf, hX9⟩)
  · rw [if_neg e]
    have hne : nI (g 1) ≠ 0 := nI_ne (by omega) (by decide) e
    refine zs_aload_n (pc := 0) dX_fadedShare_0 rfl ?_
    refine zs_get (pc := 1) dX_fadedShare_1 fX_12 (by first | exact hx | exact hC.1 | exact hC.2.1 | exact he.1) (by rfl) ?_
    refine zs_get (pc := 4) dX_fadedShare_4 fX_255 (by first | exact hx | exact hC.1 | exact hC.2.1 | exact he.1) (by rfl) ?_
    refine zn_if_ne (pc := 7) 21 dX_fadedShare_7 rfl (by omega) (fun _ => ?_) (fun h9 => absurd h9 (by omega))
    refine zs_aload_n (pc := 21) dX_fadedShare_21 rfl ?_
    refine zs_get (pc := 22) dX_fadedShare_22 fX_12 (by first | exact hx | exact hC.1 | exact hC.2.1 | exact he.1) (by rfl) ?_
    refine zs_get (pc := 25) dX_fadedShare_25 fX_264 (by first | exact hx | exact hC.1 | exact hC.2.1 | exact he.1) (by rfl) ?_
    refine zs_i2f (pc := 28) dX_fadedShare_28 ?_
    refine zs_aload_n (pc := 29) dX_fadedShare_29 rfl ?_
    refine zs_get (pc := 30) dX_fadedShare_30 fX_12 (by first | exact hx | exact hC.1 | exact hC.2.1 | exact he.1) (by rfl) ?_
    refine zs_get (pc := 33) dX_fadedShare_33 fX_255 (by first | exact hx | exact hC.1 | exact hC.2.1 | exact he.1) (by rfl) ?_
    refine zs_i2f (pc := 36) dX_fadedShare_36 ?_
    refine zs_fdiv (pc := 37) dX_fadedShare_37 (ynn32 (yfd_n hne)) ?_
    exact zs_fret (pc := 38) dX_fadedShare_38 rfl (by omega) (by omega) (⟨zOutV.y, zfr.rf, hX9⟩)
/-! consistency -/
theorem lp_X_resultCountsAgree {Γ : zG} {l : Launch} (hl : l.stackTraces = false) {d : Nat} (hd : 5 ≤ d) {h : zH} {n : Nat} {B x c np : Nat} {g T : Nat → Nat} {P : Nat → Nat → Nat} {sv : Option (Nat → Nat)} {er fl : Option Nat} {L : List Nat} (hB : B < 2 ^ 20) : ∀ i j, i + j = 10 → ∀ h9, XR B h9 x g P c sv er fl T np L → zfx x h h9 → Z Γ l mX_resultCountsAgree d 0 0 (zFin Γ (zXy x h n 1 (fun h1 => XR B h1 x g P c sv er fl T np L)) 0 0) 23 [some (.ref x), some (.int (nI 1)), some (.int (nI j))] [] h9 n 0 0 := by
  intro i
  induction i with
  | zero =>
    intro j hj h9 hX9 hfr
    refine zs_iload_n (pc := 23) dX_resultCountsAgree_23 rfl ?_
    refine zs_bipush (pc := 24) dX_resultCountsAgree_24 (zi_b 10 (by decide)) ?_
    refine zn_icmp_ge (pc := 26) 60 dX_resultCountsAgree_26 rfl (by omega) (by omega) (fun _ => ?_) (fun h9 => absurd h9 (by omega))
    refine zs_iload_n (pc := 60) dX_resultCountsAgree_60 rfl ?_
    exact zs_iret (pc := 61) dX_resultCountsAgree_61 rfl rfl (by omega) (by omega) (⟨rfl, rfl, hfr, hX9⟩)
  | succ i ih =>
    intro j hj h9 hX9 hfr
    obtain ⟨st8, hst8, hx8, htr8⟩ := hX9.1
    have i0 := hX9.2.2.1.1
    have hz := zres_le (g := g) (dn := 1) (v := j)
    refine zs_iload_n (pc := 23) dX_resultCountsAgree_23 rfl ?_
    refine zs_bipush (pc := 24) dX_resultCountsAgree_24 (zi_b 10 (by decide)) ?_
    refine zn_icmp_ge (pc := 26) 60 dX_resultCountsAgree_26 rfl (by omega) (by omega) (fun h9 => absurd h9 (by omega)) (fun _ => ?_)
    refine zs_iload_n (pc := 29) dX_resultCountsAgree_29 rfl ?_
    refine zn_if_eq (pc := 30) 52 dX_resultCountsAgree_30 rfl (by omega) (fun h9 => absurd h9 (by decide)) (fun _ => ?_)
    refine zs_aload_n (pc := 33) dX_resultCountsAgree_33 rfl ?_
    refine zs_iconst (pc := 34) dX_resultCountsAgree_34 zi_1 ?_
    refine zs_iload_n (pc := 35) dX_resultCountsAgree_35 rfl ?_
    refine zcVQ_2 (pc := 36) (d2 := d - 1) (y_X_resultCount hl (by omega) hX9 hB (dn := 1) (v := j) (by decide) (by omega)) dX_resultCountsAgree_36 kX_286 mdX_resultCount miX_resultCount mvX_resultCount rfl (by first | exact hx | exact hx8) rfl (Nat.le_of_ble_eq_true rfl) (by omega) (by omega) (by omega) (fun v h1 n1 hq => ?_) (fun E h1 n1 hq => absurd hq.1 (by intro q; cases q))
    obtain ⟨hv9, rfl, hf9, hX9⟩ := hq
    obtain rfl := Sum.inl.inj hv9
    have hfr := hfr.tr hf9
    obtain ⟨st8, hst8, hx8, htr8⟩ := hX9.1
    refine zs_aload_n (pc := 39) dX_resultCountsAgree_39 rfl ?_
    refine zs_iconst (pc := 40) dX_resultCountsAgree_40 zi_1 ?_
    refine zs_iload_n (pc := 41) dX_resultCountsAgree_41 rfl ?_
    refine zcVQ_2 (pc := 42) (d2 := d - 1) (y_X_resultCountByScan hl (by omega) hX9 hB (dn := 1) (v := j) (by decide) (by omega)) dX_resultCountsAgree_42 kX_289 mdX_resultCountByScan miX_resultCountByScan mvX_resultCountByScan rfl (by first | exact hx | exact hx8) rfl (Nat.le_of_ble_eq_true rfl) (by omega) (by omega) (by omega) (fun v h1 n1 hq => ?_) (fun E h1 n1 hq => absurd hq.1 (by intro q; cases q))
    obtain ⟨hv9, rfl, hf9, hX9⟩ := hq
    obtain rfl := Sum.inl.inj hv9
    have hfr := hfr.tr hf9
    obtain ⟨st8, hst8, hx8, htr8⟩ := hX9.1
    refine zn_icmp_ne (pc := 45) 52 dX_resultCountsAgree_45 rfl (by omega) (by omega) (fun h9 => absurd h9 (fun q => q rfl)) (fun _ => ?_)
    refine zs_iconst (pc := 48) dX_resultCountsAgree_48 zi_1 ?_
    refine zs_goto (pc := 49) 53 dX_resultCountsAgree_49 rfl ?_
    refine zs_istore_n (pc := 53) (ls2 := [_, _, _]) dX_resultCountsAgree_53 (Nat.le_of_ble_eq_true rfl) rfl ?_
    refine zn_iinc (pc := 54) (ls2 := [_, _, _]) dX_resultCountsAgree_54 rfl (Nat.le_of_ble_eq_true rfl) rfl ?_
    refine zs_goto (pc := 57) 23 dX_resultCountsAgree_57 rfl ?_
    exact ih (j + 1) (by omega) _ hX9 hfr
theorem y_X_resultCountsAgree {Γ : zG} {l : Launch} (hl : l.stackTraces = false) {d : Nat} (hd : 5 ≤ d) {h : zH} {n : Nat} {B x c np : Nat} {g T : Nat → Nat} {P : Nat → Nat → Nat} {sv : Option (Nat → Nat)} {er fl : Option Nat} {L : List Nat} (hX : XR B h x g P c sv er fl T np L) (hB : B < 2 ^ 20) : zC Γ l d mX_resultCountsAgree [.ref x] h n 0 0 (zXy x h n 1 (fun h1 => XR B h1 x g P c sv er fl T np L)) := by
  have hX9 := hX
  obtain ⟨st8, hst8, hx8, htr8⟩ := hX9.1
  have i0 := hX9.2.2.1.1
  have hz := zres_le (g := g) (dn := 0) (v := 0)
  have hfr : zfx x h h := zfx.rf
  refine zC_of (ls := [some (.ref x), none, none]) hl (by decide +kernel) rfl (Nat.le_of_ble_eq_true rfl) rfl ?_
  refine zs_aload_n (pc := 0) dX_resultCountsAgree_0 rfl ?_
  refine zs_iconst (pc := 1) dX_resultCountsAgree_1 zi_0 ?_
  refine zs_iconst (pc := 2) dX_resultCountsAgree_2 zi_0 ?_
  refine zcVQ_2 (pc := 3) (d2 := d - 1) (y_X_resultCount hl (by omega) hX9 hB (dn := 0) (v := 0) (by decide) (by decide)) dX_resultCountsAgree_3 kX_286 mdX_resultCount miX_resultCount mvX_resultCount rfl (by first | exact hx | exact hx8) rfl (Nat.le_of_ble_eq_true rfl) (by omega) (by omega) (by omega) (fun v h1 n1 hq => ?_) (fun E h1 n1 hq => absurd hq.1 (by intro q; cases q))
  obtain ⟨hv9, rfl, hf9, hX9⟩ := hq
  obtain rfl := Sum.inl.inj hv9
  have hfr := hfr.tr hf9
  obtain ⟨st8, hst8, hx8, htr8⟩ := hX9.1
  refine zs_aload_n (pc := 6) dX_resultCountsAgree_6 rfl ?_
  refine zs_iconst (pc := 7) dX_resultCountsAgree_7 zi_0 ?_
  refine zs_iconst (pc := 8) dX_resultCountsAgree_8 zi_0 ?_
  refine zcVQ_2 (pc := 9) (d2 := d - 1) (y_X_resultCountByScan hl (by omega) hX9 hB (dn := 0) (v := 0) (by decide) (by decide)) dX_resultCountsAgree_9 kX_289 mdX_resultCountByScan miX_resultCountByScan mvX_resultCountByScan rfl (by first | exact hx | exact hx8) rfl (Nat.le_of_ble_eq_true rfl) (by omega) (by omega) (by omega) (fun v h1 n1 hq => ?_) (fun E h1 n1 hq => absurd hq.1 (by intro q; cases q))
  obtain ⟨hv9, rfl, hf9, hX9⟩ := hq
  obtain rfl := Sum.inl.inj hv9
  have hfr := hfr.tr hf9
  obtain ⟨st8, hst8, hx8, htr8⟩ := hX9.1
  refine zn_icmp_ne (pc := 12) 19 dX_resultCountsAgree_12 rfl (by omega) (by omega) (fun h9 => absurd h9 (fun q => q rfl)) (fun _ => ?_)
  refine zs_iconst (pc := 15) dX_resultCountsAgree_15 zi_1 ?_
  refine zs_goto (pc := 16) 20 dX_resultCountsAgree_16 rfl ?_
  refine zs_istore_n (pc := 20) (ls2 := [_, _, _]) dX_resultCountsAgree_20 (Nat.le_of_ble_eq_true rfl) rfl ?_
  refine zs_iconst (pc := 21) dX_resultCountsAgree_21 zi_0 ?_
  refine zs_istore_n (pc := 22) (ls2 := [_, _, _]) dX_resultCountsAgree_22 (Nat.le_of_ble_eq_true rfl) rfl ?_
  exact lp_X_resultCountsAgree hl hd hB 10 0 rfl _ hX9 hfr
theorem lpi_X_sharedDigitsAgree {Γ : zG} {l : Launch} (hl : l.stackTraces = false) {d : Nat} (hd : 5 ≤ d) {h : zH} {n : Nat} {B x c np i : Nat} {g T : Nat → Nat} {P : Nat → Nat → Nat} {sv : Option (Nat → Nat)} {er fl : Option Nat} {L : List Nat} (hB : B < 2 ^ 20) {p : Nat → Nat} {Q : Nat → Nat → Nat} (hC : CH h (x + 1) p Q (zFg g)) (hpi : p i < 20) (hA1 : zAg (Q (p i)) (eg g i)) (hO : zOk g i) {FN : List Frame → Array Value → State → State → Prop} (K : ∀ x3 h9, XR B h9 x g P c sv er fl T np L → zfx x h h9 → Z Γ l mX_sharedDigitsAgree d 0 0 FN 2 [some (.ref x), some (.int (nI (i + 1))), some (.ref (x + 1 + 2 + 2 * p i)), x3] [] h9 n 0 0) : ∀ a j, a + j = eg g i 5 → ∀ h9, XR B h9 x g P c sv er fl T np L → zfx x h h9 → Z Γ l mX_sharedDigitsAgree d 0 0 FN 25 [some (.ref x), some (.int (nI i)), some (.ref (x + 1 + 2 + 2 * p i)), some (.int (nI j))] [] h9 n 0 0 := by
  have h5 := hA1.e5
  have h6 := hO.2.2.2.2.2.1
  intro a
  induction a with
  | zero =>
    intro j hj h9 hX9 hfr
    obtain ⟨st8, hst8, hx8, htr8⟩ := hX9.1
    have hC8 := hC.sm (h1 := h9) (fun q q1 q2 => hfr q (by omega))
    have he8 := hC8.2.2 (p i) hpi
    obtain rfl : j = eg g i 5 := by omega
    refine zs_iload_n (pc := 25) dX_sharedDigitsAgree_25 rfl ?_
    refine zs_aload_n (pc := 26) dX_sharedDigitsAgree_26 rfl ?_
    refine zs_get (pc := 27) dX_sharedDigitsAgree_27 fX_147 (by first | exact hx8 | exact hC8.1 | exact hC8.2.1 | exact he8.1 | exact he8.2) (by rfl) ?_
    refine zn_icmp_ge (pc := 30) 64 dX_sharedDigitsAgree_30 rfl (by omega) (by omega) (fun _ => ?_) (fun h9 => absurd h9 (by omega))
    refine zn_iinc (pc := 64) (ls2 := [_, _, _, _]) dX_sharedDigitsAgree_64 rfl (Nat.le_of_ble_eq_true rfl) rfl ?_
    refine zs_goto (pc := 67) 2 dX_sharedDigitsAgree_67 rfl ?_
    exact K _ _ hX9 hfr
  | succ a ih =>
    intro j hj h9 hX9 hfr
    obtain ⟨st8, hst8, hx8, htr8⟩ := hX9.1
    have hC8 := hC.sm (h1 := h9) (fun q q1 q2 => hfr q (by omega))
    have he8 := hC8.2.2 (p i) hpi
    have hc := hO.2.2.2.2.2.2.1 j (by omega)
    have hq9 := hA1 (6 + j) (by omega)
    have hdp : zdep g (eg g i (6 + j)) ≤ 3 := by unfold zdep; (repeat' split) <;> omega
    refine zs_iload_n (pc := 25) dX_sharedDigitsAgree_25 rfl ?_
    refine zs_aload_n (pc := 26) dX_sharedDigitsAgree_26 rfl ?_
    refine zs_get (pc := 27) dX_sharedDigitsAgree_27 fX_147 (by first | exact hx8 | exact hC8.1 | exact hC8.2.1 | exact he8.1 | exact he8.2) (by rfl) ?_
    refine zn_icmp_ge (pc := 30) 64 dX_sharedDigitsAgree_30 rfl (by omega) (by omega) (fun h9 => absurd h9 (by omega)) (fun _ => ?_)
    refine zs_aload_n (pc := 33) dX_sharedDigitsAgree_33 rfl ?_
    refine zs_aload_n (pc := 34) dX_sharedDigitsAgree_34 rfl ?_
    refine zs_get (pc := 35) dX_sharedDigitsAgree_35 fX_150 (by first | exact hx8 | exact hC8.1 | exact hC8.2.1 | exact he8.1 | exact he8.2) (by rfl) ?_
    refine zs_iload_n (pc := 38) dX_sharedDigitsAgree_38 rfl ?_
    refine zn_iald (pc := 39) dX_sharedDigitsAgree_39 (by first | exact hx8 | exact hC8.1 | exact hC8.2.1 | exact he8.1 | exact he8.2) (by omega) (by first | decide | assumption) ?_
    rw [hq9]
    refine zcVQ_1 (pc := 40) (d2 := d - 1) (y_X_sharedDigits hl (by omega) hX9 hB hc) dX_sharedDigitsAgree_40 kX_292 mdX_sharedDigits miX_sharedDigits mvX_sharedDigits rfl (by first | exact hx | exact hx8) rfl (Nat.le_of_ble_eq_true rfl) (by omega) (by omega) (by omega) (fun v h1 n1 hq => ?_) (fun E h1 n1 hq => absurd hq.1 (by intro q; cases q))
    obtain ⟨hv9, rfl, hf9, hX9⟩ := hq
    obtain rfl := Sum.inl.inj hv9
    have hfr := hfr.tr hf9
    obtain ⟨st8, hst8, hx8, htr8⟩ := hX9.1
    have hC8 := hC.sm (fun q q1 q2 => hfr q (by omega))
    have he8 := hC8.2.2 (p i) hpi
    refine zs_aload_n (pc := 43) dX_sharedDigitsAgree_43 rfl ?_
    refine zs_aload_n (pc := 44) dX_sharedDigitsAgree_44 rfl ?_
    refine zs_get (pc := 45) dX_sharedDigitsAgree_45 fX_150 (by first | exact hx8 | exact hC8.1 | exact hC8.2.1 | exact he8.1 | exact he8.2) (by rfl) ?_
    refine zs_iload_n (pc := 48) dX_sharedDigitsAgree_48 rfl ?_
    refine zn_iald (pc := 49) dX_sharedDigitsAgree_49 (by first | exact hx8 | exact hC8.1 | exact hC8.2.1 | exact he8.1 | exact he8.2) (by omega) (by first | decide | assumption) ?_
    rw [hq9]
    refine zcVQ_1 (pc := 50) (d2 := d - 1) (y_X_sharedDigitsByScan hl (by omega) hX9 hB hc) dX_sharedDigitsAgree_50 kX_295 mdX_sharedDigitsByScan miX_sharedDigitsByScan mvX_sharedDigitsByScan rfl (by first | exact hx | exact hx8) rfl (Nat.le_of_ble_eq_true rfl) (by omega) (by omega) (by omega) (fun v h1 n1 hq => ?_) (fun E h1 n1 hq => absurd hq.1 (by intro q; cases q))
    obtain ⟨hv9, rfl, hf9, hX9⟩ := hq
    obtain rfl := Sum.inl.inj hv9
    have hfr := hfr.tr hf9
    obtain ⟨st8, hst8, hx8, htr8⟩ := hX9.1
    have hC8 := hC.sm (fun q q1 q2 => hfr q (by omega))
    have he8 := hC8.2.2 (p i) hpi
    refine zn_icmp_eq (pc := 53) 58 dX_sharedDigitsAgree_53 rfl (by omega) (by omega) (fun _ => ?_) (fun h9 => absurd h9 (fun q => q rfl))
    refine zn_iinc (pc := 58) (ls2 := [_, _, _, _]) dX_sharedDigitsAgree_58 rfl (Nat.le_of_ble_eq_true rfl) rfl ?_
    refine zs_goto (pc := 61) 25 dX_sharedDigitsAgree_61 rfl ?_
    exact ih (j + 1) (by omega) _ hX9 hfr
theorem lp_X_sharedDigitsAgree {Γ : zG} {l : Launch} (hl : l.stackTraces = false) {d : Nat} (hd : 5 ≤ d) {h : zH} {n : Nat} {B x c np : Nat} {g T : Nat → Nat} {P : Nat → Nat → Nat} {sv : Option (Nat → Nat)} {er fl : Option Nat} {L : List Nat} (hB : B < 2 ^ 20) {p : Nat → Nat} {Q : Nat → Nat → Nat} (hC : CH h (x + 1) p Q (zFg g)) (hp : PM p) (hA : ∀ j, j < g 0 → zAg (Q (p j)) (eg g j)) (hI : IG B g) : ∀ a i, a + i = g 0 → ∀ x2 x3 h9, XR B h9 x g P c sv er fl T np L → zfx x h h9 → Z Γ l mX_sharedDigitsAgree d 0 0 (zFin Γ (zXy x h n 1 (fun h1 => XR B h1 x g P c sv er fl T np L)) 0 0) 2 [some (.ref x), some (.int (nI i)), x2, x3] [] h9 n 0 0 := by
  have i0 := hI.1
  have e1 : zFg g 1 = g 0 := rfl
  intro a
  induction a with
  | zero =>
    intro i hi x2 x3 h9 hX9 hfr
    obtain ⟨st8, hst8, hx8, htr8⟩ := hX9.1
    have hC8 := hC.sm (h1 := h9) (fun q q1 q2 => hfr q (by omega))
    obtain rfl : i = g 0 := by omega
    refine zs_iload_n (pc := 2) dX_sharedDigitsAgree_2 rfl ?_
    refine zs_aload_n (pc := 3) dX_sharedDigitsAgree_3 rfl ?_
    refine zs_get (pc := 4) dX_sharedDigitsAgree_4 fX_12 (by first | exact hx8 | exact hC8.1 | exact hC8.2.1 | exact he8.1 | exact he8.2) (by rfl) ?_
    refine zs_get (pc := 7) dX_sharedDigitsAgree_7 fX_115 (by first | exact hx8 | exact hC8.1 | exact hC8.2.1 | exact he8.1 | exact he8.2) (by rfl) ?_
    refine zn_icmp_ge (pc := 10) 70 dX_sharedDigitsAgree_10 rfl (by omega) (by omega) (fun _ => ?_) (fun h9 => absurd h9 (by omega))
    refine zs_iconst (pc := 70) dX_sharedDigitsAgree_70 zi_1 ?_
    exact zs_iret (pc := 71) dX_sharedDigitsAgree_71 rfl rfl (by omega) (by omega) (⟨rfl, rfl, hfr, hX9⟩)
  | succ a ih =>
    intro i hi x2 x3 h9 hX9 hfr
    obtain ⟨st8, hst8, hx8, htr8⟩ := hX9.1
    have hC8 := hC.sm (h1 := h9) (fun q q1 q2 => hfr q (by omega))
    refine zs_iload_n (pc := 2) dX_sharedDigitsAgree_2 rfl ?_
    refine zs_aload_n (pc := 3) dX_sharedDigitsAgree_3 rfl ?_
    refine zs_get (pc := 4) dX_sharedDigitsAgree_4 fX_12 (by first | exact hx8 | exact hC8.1 | exact hC8.2.1 | exact he8.1 | exact he8.2) (by rfl) ?_
    refine zs_get (pc := 7) dX_sharedDigitsAgree_7 fX_115 (by first | exact hx8 | exact hC8.1 | exact hC8.2.1 | exact he8.1 | exact he8.2) (by rfl) ?_
    refine zn_icmp_ge (pc := 10) 70 dX_sharedDigitsAgree_10 rfl (by omega) (by omega) (fun h9 => absurd h9 (by omega)) (fun _ => ?_)
    refine zs_aload_n (pc := 13) dX_sharedDigitsAgree_13 rfl ?_
    refine zs_get (pc := 14) dX_sharedDigitsAgree_14 fX_12 (by first | exact hx8 | exact hC8.1 | exact hC8.2.1 | exact he8.1 | exact he8.2) (by rfl) ?_
    refine zs_get (pc := 17) dX_sharedDigitsAgree_17 fX_120 (by first | exact hx8 | exact hC8.1 | exact hC8.2.1 | exact he8.1 | exact he8.2) (by rfl) ?_
    refine zs_iload_n (pc := 20) dX_sharedDigitsAgree_20 rfl ?_
    refine zn_aald (pc := 21) (Or.inl rfl) dX_sharedDigitsAgree_21 (by first | exact hx8 | exact hC8.1 | exact hC8.2.1 | exact he8.1 | exact he8.2) (by omega) (by decide) (by rfl) ?_
    refine zs_astore_n (pc := 22) (ls2 := [_, _, _, _]) dX_sharedDigitsAgree_22 (Nat.le_of_ble_eq_true rfl) rfl ?_
    refine zs_iconst (pc := 23) dX_sharedDigitsAgree_23 zi_0 ?_
    refine zs_istore_n (pc := 24) (ls2 := [_, _, _, _]) dX_sharedDigitsAgree_24 (Nat.le_of_ble_eq_true rfl) rfl ?_
    exact lpi_X_sharedDigitsAgree hl hd hB hC (hp.1 i (by omega)) (hA i (by omega)) (hI.2.2.2.2.2.1 i (by omega)) (fun x3 h9 g1 g2 => ih (i + 1) (by omega) _ x3 h9 g1 g2) (eg g i 5) 0 rfl h9 hX9 hfr
theorem y_X_sharedDigitsAgree {Γ : zG} {l : Launch} (hl : l.stackTraces = false) {d : Nat} (hd : 5 ≤ d) {h : zH} {n : Nat} {B x c np : Nat} {g T : Nat → Nat} {P : Nat → Nat → Nat} {sv : Option (Nat → Nat)} {er fl : Option Nat} {L : List Nat} (hX : XR B h x g P c sv er fl T np L) (hB : B < 2 ^ 20) : zC Γ l d mX_sharedDigitsAgree [.ref x] h n 0 0 (zXy x h n 1 (fun h1 => XR B h1 x g P c sv er fl T np L)) := by
  have hX9 := hX; obtain ⟨⟨st, hst, hx, htr⟩, hR, hI, hsv, hH, hrk, hpg, hn60, hTc, hL, hag⟩ := hX; have i0 := hI.1
  obtain ⟨p, Q, hC, hp, hA⟩ := hR
  refine zC_of (ls := [some (.ref x), none, none, none]) hl (by decide +kernel) rfl (Nat.le_of_ble_eq_true rfl) rfl ?_
  refine zs_iconst (pc := 0) dX_sharedDigitsAgree_0 zi_0 ?_
  refine zs_istore_n (pc := 1) (ls2 := [_, _, _, _]) dX_sharedDigitsAgree_1 (Nat.le_of_ble_eq_true rfl) rfl ?_
  exact lp_X_sharedDigitsAgree hl hd hB hC hp hA hI (g 0) 0 rfl _ _ h hX9 zfx.rf
theorem lp_X_fadingAgrees {Γ : zG} {l : Launch} (hl : l.stackTraces = false) {d : Nat} (hd : 5 ≤ d) {h : zH} {n : Nat} {B x c np : Nat} {g T : Nat → Nat} {P : Nat → Nat → Nat} {sv : Option (Nat → Nat)} {er fl : Option Nat} {L : List Nat} (hB : B < 2 ^ 20) {p : Nat → Nat} {Q : Nat → Nat → Nat} (hC : CH h (x + 1) p Q (zFg g)) (hp : PM p) (hA : ∀ j, j < g 0 → zAg (Q (p j)) (eg g j)) (hI : IG B g) : ∀ a i, a + i = g 0 → ∀ x2 h9, XR B h9 x g P c sv er fl T np L → zfx x h h9 → Z Γ l mX_fadingAgrees d 0 0 (zFin Γ (zXy x h n 1 (fun h1 => XR B h1 x g P c sv er fl T np L)) 0 0) 2 [some (.ref x), some (.int (nI i)), x2] [] h9 n 0 0 := by
  have i0 := hI.1
  have e1 : zFg g 1 = g 0 := rfl
  intro a
  induction a with
  | zero =>
    intro i hi x2 h9 hX9 hfr
    obtain ⟨st8, hst8, hx8, htr8⟩ := hX9.1
    have hC8 := hC.sm (h1 := h9) (fun q q1 q2 => hfr q (by omega))
    obtain rfl : i = g 0 := by omega
    refine zs_iload_n (pc := 2) dX_fadingAgrees_2 rfl ?_
    refine zs_aload_n (pc := 3) dX_fadingAgrees_3 rfl ?_
    refine zs_get (pc := 4) dX_fadingAgrees_4 fX_12 (by first | exact hx8 | exact hC8.1 | exact hC8.2.1 | exact he8.1) (by rfl) ?_
    refine zs_get (pc := 7) dX_fadingAgrees_7 fX_115 (by first | exact hx8 | exact hC8.1 | exact hC8.2.1 | exact he8.1) (by rfl) ?_
    refine zn_icmp_ge (pc := 10) 47 dX_fadingAgrees_10 rfl (by omega) (by omega) (fun _ => ?_) (fun h9 => absurd h9 (by omega))
    refine zs_iconst (pc := 47) dX_fadingAgrees_47 zi_1 ?_
    exact zs_iret (pc := 48) dX_fadingAgrees_48 rfl rfl (by omega) (by omega) (⟨rfl, rfl, hfr, hX9⟩)
  | succ a ih =>
    intro i hi x2 h9 hX9 hfr
    obtain ⟨st8, hst8, hx8, htr8⟩ := hX9.1
    have hC8 := hC.sm (h1 := h9) (fun q q1 q2 => hfr q (by omega))
    have he8 := hC8.2.2 (p i) (hp.1 i (by omega))
    have hl9 := zlife_le (eg g i)
    refine zs_iload_n (pc := 2) dX_fadingAgrees_2 rfl ?_
    refine zs_aload_n (pc := 3) dX_fadingAgrees_3 rfl ?_
    refine zs_get (pc := 4) dX_fadingAgrees_4 fX_12 (by first | exact hx8 | exact hC8.1 | exact hC8.2.1 | exact he8.1) (by rfl) ?_
    refine zs_get (pc := 7) dX_fadingAgrees_7 fX_115 (by first | exact hx8 | exact hC8.1 | exact hC8.2.1 | exact he8.1) (by rfl) ?_
    refine zn_icmp_ge (pc := 10) 47 dX_fadingAgrees_10 rfl (by omega) (by omega) (fun h9 => absurd h9 (by omega)) (fun _ => ?_)
    refine zs_aload_n (pc := 13) dX_fadingAgrees_13 rfl ?_
    refine zs_get (pc := 14) dX_fadingAgrees_14 fX_12 (by first | exact hx8 | exact hC8.1 | exact hC8.2.1 | exact he8.1) (by rfl) ?_
    refine zs_get (pc := 17) dX_fadingAgrees_17 fX_120 (by first | exact hx8 | exact hC8.1 | exact hC8.2.1 | exact he8.1) (by rfl) ?_
    refine zs_iload_n (pc := 20) dX_fadingAgrees_20 rfl ?_
    refine zn_aald (pc := 21) (Or.inl rfl) dX_fadingAgrees_21 (by first | exact hx8 | exact hC8.1 | exact hC8.2.1 | exact he8.1) (by omega) (by decide) (by rfl) ?_
    refine zs_get (pc := 22) dX_fadingAgrees_22 fX_124 (by first | exact hx8 | exact hC8.1 | exact hC8.2.1 | exact he8.1) (by rfl) ?_
    rw [hA i (by omega) 0 (by omega)]
    refine zs_istore_n (pc := 25) (ls2 := [_, _, _]) dX_fadingAgrees_25 (Nat.le_of_ble_eq_true rfl) rfl ?_
    refine zs_aload_n (pc := 26) dX_fadingAgrees_26 rfl ?_
    refine zs_iload_n (pc := 27) dX_fadingAgrees_27 rfl ?_
    refine zcVQ_1 (pc := 28) (d2 := d - 1) (y_X_daysUntilFaded hl (by omega) hX9 hB (k := i) (by omega)) dX_fadingAgrees_28 kX_298 mdX_daysUntilFaded miX_daysUntilFaded mvX_daysUntilFaded rfl (by exact hx8) rfl (Nat.le_of_ble_eq_true rfl) (by omega) (by omega) (by omega) (fun v h1 n1 hq => ?_) (fun E h1 n1 hq => absurd hq.1 (by intro q; cases q))
    obtain ⟨hv9, rfl, hf9, hX9⟩ := hq
    obtain rfl := Sum.inl.inj hv9
    have hfr := hfr.tr hf9
    obtain ⟨st8, hst8, hx8, htr8⟩ := hX9.1
    refine zs_aload_n (pc := 31) dX_fadingAgrees_31 rfl ?_
    refine zs_iload_n (pc := 32) dX_fadingAgrees_32 rfl ?_
    refine zcVQ_1 (pc := 33) (d2 := d - 1) (y_X_daysUntilFadedByDays hl (by omega) hX9 hB (k := i) (by omega)) dX_fadingAgrees_33 kX_301 mdX_daysUntilFadedByDays miX_daysUntilFadedByDays mvX_daysUntilFadedByDays rfl (by exact hx8) rfl (Nat.le_of_ble_eq_true rfl) (by omega) (by omega) (by omega) (fun v h1 n1 hq => ?_) (fun E h1 n1 hq => absurd hq.1 (by intro q; cases q))
    obtain ⟨hv9, rfl, hf9, hX9⟩ := hq
    obtain rfl := Sum.inl.inj hv9
    have hfr := hfr.tr hf9
    obtain ⟨st8, hst8, hx8, htr8⟩ := hX9.1
    refine zn_icmp_eq (pc := 36) 41 dX_fadingAgrees_36 rfl (by omega) (by omega) (fun _ => ?_) (fun h9 => absurd h9 (fun q => q rfl))
    refine zn_iinc (pc := 41) (ls2 := [_, _, _]) dX_fadingAgrees_41 rfl (Nat.le_of_ble_eq_true rfl) rfl ?_
    refine zs_goto (pc := 44) 2 dX_fadingAgrees_44 rfl ?_
    exact ih (i + 1) (by omega) _ _ hX9 hfr
theorem y_X_fadingAgrees {Γ : zG} {l : Launch} (hl : l.stackTraces = false) {d : Nat} (hd : 5 ≤ d) {h : zH} {n : Nat} {B x c np : Nat} {g T : Nat → Nat} {P : Nat → Nat → Nat} {sv : Option (Nat → Nat)} {er fl : Option Nat} {L : List Nat} (hX : XR B h x g P c sv er fl T np L) (hB : B < 2 ^ 20) : zC Γ l d mX_fadingAgrees [.ref x] h n 0 0 (zXy x h n 1 (fun h1 => XR B h1 x g P c sv er fl T np L)) := by
  have hX9 := hX; obtain ⟨⟨st, hst, hx, htr⟩, hR, hI, hsv, hH, hrk, hpg, hn60, hTc, hL, hag⟩ := hX; have i0 := hI.1
  obtain ⟨p, Q, hC, hp, hA⟩ := hR
  refine zC_of (ls := [some (.ref x), none, none]) hl (by decide +kernel) rfl (Nat.le_of_ble_eq_true rfl) rfl ?_
  refine zs_iconst (pc := 0) dX_fadingAgrees_0 zi_0 ?_
  refine zs_istore_n (pc := 1) (ls2 := [_, _, _]) dX_fadingAgrees_1 (Nat.le_of_ble_eq_true rfl) rfl ?_
  exact lp_X_fadingAgrees hl hd hB hC hp hA hI (g 0) 0 rfl _ h hX9 zfx.rf
theorem y_X_totalsAgree {Γ : zG} {l : Launch} (hl : l.stackTraces = false) {d : Nat} (hd : 5 ≤ d) {h : zH} {n : Nat} {B x c np : Nat} {g T : Nat → Nat} {P : Nat → Nat → Nat} {sv : Option (Nat → Nat)} {er fl : Option Nat} {L : List Nat} (hX : XR B h x g P c sv er fl T np L) (hB : B < 2 ^ 20) : zC Γ l d mX_totalsAgree [.ref x] h n 0 0 (zXy x h n 1 (fun h1 => XR B h1 x g P c sv er fl T np L)) := by
  have hX9 := hX; obtain ⟨⟨st, hst, hx, htr⟩, hR, hI, hsv, hH, hrk, hpg, hn60, hTc, hL, hag⟩ := hX; have i0 := hI.1
  obtain ⟨p, Q, hC, hp, hA⟩ := hR
  have i1 := hI.2.1
  have i4 := hI.2.2.2.2.1
  have e1 : zFg g 1 = g 0 := rfl
  have e4 : zFg g 4 = g 1 := rfl
  have e5 : zFg g 5 = g 3 := rfl
  have e6 : zFg g 6 = g 4 := rfl
  have e7 : zFg g 7 = g 5 := rfl
  refine zC_of (ls := [some (.ref x), none]) hl (by decide +kernel) rfl (Nat.le_of_ble_eq_true rfl) rfl ?_
  refine zs_aload_n (pc := 0) dX_totalsAgree_0 rfl ?_
  refine zs_get (pc := 1) dX_totalsAgree_1 fX_12 (by first | exact hx | exact hC.1) (by rfl) ?_
  refine zs_get (pc := 4) dX_totalsAgree_4 fX_115 (by first | exact hx | exact hC.1) (by rfl) ?_
  refine zs_aload_n (pc := 7) dX_totalsAgree_7 rfl ?_
  refine zs_get (pc := 8) dX_totalsAgree_8 fX_12 (by first | exact hx | exact hC.1) (by rfl) ?_
  refine zs_get (pc := 11) dX_totalsAgree_11 fX_258 (by first | exact hx | exact hC.1) (by rfl) ?_
  refine zn_iadd (pc := 14) dX_totalsAgree_14 ?_
  refine zs_aload_n (pc := 15) dX_totalsAgree_15 rfl ?_
  refine zs_get (pc := 16) dX_totalsAgree_16 fX_12 (by first | exact hx | exact hC.1) (by rfl) ?_
  refine zs_get (pc := 19) dX_totalsAgree_19 fX_261 (by first | exact hx | exact hC.1) (by rfl) ?_
  refine zn_iadd (pc := 22) dX_totalsAgree_22 ?_
  refine zs_aload_n (pc := 23) dX_totalsAgree_23 rfl ?_
  refine zs_get (pc := 24) dX_totalsAgree_24 fX_12 (by first | exact hx | exact hC.1) (by rfl) ?_
  refine zs_get (pc := 27) dX_totalsAgree_27 fX_264 (by first | exact hx | exact hC.1) (by rfl) ?_
  refine zn_iadd (pc := 30) dX_totalsAgree_30 ?_
  refine zs_istore_n (pc := 31) (ls2 := [_, _]) dX_totalsAgree_31 (Nat.le_of_ble_eq_true rfl) rfl ?_
  refine zs_aload_n (pc := 32) dX_totalsAgree_32 rfl ?_
  refine zs_get (pc := 33) dX_totalsAgree_33 fX_12 (by first | exact hx | exact hC.1) (by rfl) ?_
  refine zs_get (pc := 36) dX_totalsAgree_36 fX_255 (by first | exact hx | exact hC.1) (by rfl) ?_
  refine zs_iload_n (pc := 39) dX_totalsAgree_39 rfl ?_
  refine zn_icmp_ne (pc := 40) 47 dX_totalsAgree_40 rfl (by omega) (by omega) (fun h9 => absurd h9 (by omega)) (fun _ => ?_)
  refine zs_iconst (pc := 43) dX_totalsAgree_43 zi_1 ?_
  refine zs_goto (pc := 44) 48 dX_totalsAgree_44 rfl ?_
  exact zs_iret (pc := 48) dX_totalsAgree_48 rfl rfl (by omega) (by omega) (⟨rfl, rfl, zfx.rf, hX9⟩)
theorem y_X_isConsistent {Γ : zG} {l : Launch} (hl : l.stackTraces = false) {d : Nat} (hd : 6 ≤ d) {h : zH} {n : Nat} {B x c np : Nat} {g T : Nat → Nat} {P : Nat → Nat → Nat} {sv : Option (Nat → Nat)} {er fl : Option Nat} {L : List Nat} (hX : XR B h x g P c sv er fl T np L) (hB : B < 2 ^ 20) : zC Γ l d mX_isConsistent [.ref x] h n 0 0 (zXy x h n 1 (fun h1 => XR B h1 x g P c sv er fl T np L)) := by
  have hX9 := hX
  obtain ⟨st8, hst8, hx8, htr8⟩ := hX9.1
  have hfr : zfx x h h := zfx.rf
  refine zC_of (ls := [some (.ref x)]) hl (by decide +kernel) rfl (Nat.le_of_ble_eq_true rfl) rfl ?_
  refine zs_aload_n (pc := 0) dX_isConsistent_0 rfl ?_
  refine zcVQ_0 (pc := 1) (d2 := d - 1) (y_X_resultCountsAgree hl (by omega) hX9 hB) dX_isConsistent_1 kX_274 mdX_resultCountsAgree miX_resultCountsAgree mvX_resultCountsAgree rfl (by exact hx8) rfl (Nat.le_of_ble_eq_true rfl) (by omega) (by omega) (by omega) (fun v h1 n1 hq => ?_) (fun E h1 n1 hq => absurd hq.1 (by intro q; cases q))
  obtain ⟨hv9, rfl, hf9, hX9⟩ := hq
  obtain rfl := Sum.inl.inj hv9
  have hfr := hfr.tr hf9
  obtain ⟨st8, hst8, hx8, htr8⟩ := hX9.1
  refine zn_if_eq (pc := 4) 32 dX_isConsistent_4 rfl (by omega) (fun h9 => absurd h9 (by decide)) (fun _ => ?_)
  refine zs_aload_n (pc := 7) dX_isConsistent_7 rfl ?_
  refine zcVQ_0 (pc := 8) (d2 := d - 1) (y_X_sharedDigitsAgree hl (by omega) hX9 hB) dX_isConsistent_8 kX_277 mdX_sharedDigitsAgree miX_sharedDigitsAgree mvX_sharedDigitsAgree rfl (by exact hx8) rfl (Nat.le_of_ble_eq_true rfl) (by omega) (by omega) (by omega) (fun v h1 n1 hq => ?_) (fun E h1 n1 hq => absurd hq.1 (by intro q; cases q))
  obtain ⟨hv9, rfl, hf9, hX9⟩ := hq
  obtain rfl := Sum.inl.inj hv9
  have hfr := hfr.tr hf9
  obtain ⟨st8, hst8, hx8, htr8⟩ := hX9.1
  refine zn_if_eq (pc := 11) 32 dX_isConsistent_11 rfl (by omega) (fun h9 => absurd h9 (by decide)) (fun _ => ?_)
  refine zs_aload_n (pc := 14) dX_isConsistent_14 rfl ?_
  refine zcVQ_0 (pc := 15) (d2 := d - 1) (y_X_fadingAgrees hl (by omega) hX9 hB) dX_isConsistent_15 kX_280 mdX_fadingAgrees miX_fadingAgrees mvX_fadingAgrees rfl (by exact hx8) rfl (Nat.le_of_ble_eq_true rfl) (by omega) (by omega) (by omega) (fun v h1 n1 hq => ?_) (fun E h1 n1 hq => absurd hq.1 (by intro q; cases q))
  obtain ⟨hv9, rfl, hf9, hX9⟩ := hq
  obtain rfl := Sum.inl.inj hv9
  have hfr := hfr.tr hf9
  obtain ⟨st8, hst8, hx8, htr8⟩ := hX9.1
  refine zn_if_eq (pc := 18) 32 dX_isConsistent_18 rfl (by omega) (fun h9 => absurd h9 (by decide)) (fun _ => ?_)
  refine zs_aload_n (pc := 21) dX_isConsistent_21 rfl ?_
  refine zcVQ_0 (pc := 22) (d2 := d - 1) (y_X_totalsAgree hl (by omega) hX9 hB) dX_isConsistent_22 kX_283 mdX_totalsAgree miX_totalsAgree mvX_totalsAgree rfl (by exact hx8) rfl (Nat.le_of_ble_eq_true rfl) (by omega) (by omega) (by omega) (fun v h1 n1 hq => ?_) (fun E h1 n1 hq => absurd hq.1 (by intro q; cases q))
  obtain ⟨hv9, rfl, hf9, hX9⟩ := hq
  obtain rfl := Sum.inl.inj hv9
  have hfr := hfr.tr hf9
  obtain ⟨st8, hst8, hx8, htr8⟩ := hX9.1
  refine zn_if_eq (pc := 25) 32 dX_isConsistent_25 rfl (by omega) (fun h9 => absurd h9 (by decide)) (fun _ => ?_)
  refine zs_iconst (pc := 28) dX_isConsistent_28 zi_1 ?_
  refine zs_goto (pc := 29) 33 dX_isConsistent_29 rfl ?_
  exact zs_iret (pc := 33) dX_isConsistent_33 rfl rfl (by omega) (by omega) (⟨rfl, rfl, hfr, hX9⟩)

