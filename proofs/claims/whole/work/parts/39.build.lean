/-! the trie is built: the walk -/
theorem lpi_T_build {Γ : zG} {l : Launch} (hl : l.stackTraces = false) {d : Nat} (hd : 2 ≤ d) {h : zH} {n : Nat} {B r t i : Nat} {g : Nat → Nat} {p : Nat → Nat} {Q : Nat → Nat → Nat} {FN : List Frame → Array Value → State → State → Prop} (h0 : h t = some (zTo t)) (hC0 : CH h r p Q (zFg g)) (hp : PM p) (hA : ∀ j, j < g 0 → zAg (Q (p j)) (eg g j)) (hI : IG B g) (hdj : r + 42 ≤ t ∨ t + 3 ≤ r) (hi : i < g 0) (K : ∀ x5, Z Γ l mT_build d 0 0 FN 18 [some (.ref t), some (.ref r), some (.int (nI (i + 1))), some (.ref (r + 2 + 2 * p i)), some (.int (nI (eg g i 5))), x5] [] (yTH h t (zEj g (i + 1) 0) (zCj g (i + 1) 0)) n 0 0) : ∀ a j, a + j = eg g i 5 → ∀ x5, Z Γ l mT_build d 0 0 FN 36 [some (.ref t), some (.ref r), some (.int (nI i)), some (.ref (r + 2 + 2 * p i)), some (.int (nI j)), x5] [] (yTH h t (zEj g i j) (zCj g i j)) n 0 0 := by
  have i0 := hI.1
  have hpi := hp.1 i (by omega)
  have hA1 := hA i hi
  have h5 := hA1.e5
  have h6 := hI.s6 i hi
  have hO := hI.2.2.2.2.2.1 i hi
  intro a
  induction a with
  | zero =>
    intro j hj x5
    obtain rfl : j = eg g i 5 := by omega
    have hT := yTH.T (t := t) (E := zEj g i (eg g i 5)) (C := zCj g i (eg g i 5)) h0
    have hC := hC0.fr (yTH.fr (t := t) (E := zEj g i (eg g i 5)) (C := zCj g i (eg g i 5))) (by omega)
    have he := hC.2.2 (p i) hpi
    refine zs_iload (pc := 36) dT_build_36 rfl ?_
    refine zs_aload_n (pc := 38) dT_build_38 rfl ?_
    refine zs_get (pc := 39) dT_build_39 fT_45 (by first | exact hT.1 | exact hT.2.1 | exact hT.2.2 | exact hC.1 | exact hC.2.1 | exact he.1 | exact he.2) (by rfl) ?_
    refine zn_icmp_ge (pc := 42) 94 dT_build_42 rfl (by omega) (by omega) (fun _ => ?_) (fun h9 => absurd h9 (by omega))
    refine zn_iinc (pc := 94) (ls2 := [_, _, _, _, _, _]) dT_build_94 rfl (Nat.le_of_ble_eq_true rfl) rfl ?_
    refine zs_goto (pc := 97) 18 dT_build_97 rfl ?_
    rw [zEj_n, zCj_n]
    exact K x5
  | succ a ih =>
    intro j hj x5
    have hT := yTH.T (t := t) (E := zEj g i j) (C := zCj g i j) h0
    have hC := hC0.fr (yTH.fr (t := t) (E := zEj g i j) (C := zCj g i j)) (by omega)
    have he := hC.2.2 (p i) hpi
    have hc := hO.2.2.2.2.2.2.1 j (by omega)
    have hq := hA1 (6 + j) (by omega)
    have hEb : ∀ x, zEj g i j x < 2 ^ 31 := fun x => by
      have := zEj_b (g := g) (i := i) (j := j) (x := x)
      omega
    have hz : ∀ x5, Z Γ l mT_build d 0 0 FN 88 [some (.ref t), some (.ref r), some (.int (nI i)), some (.ref (r + 2 + 2 * p i)), some (.int (nI j)), x5] [] (yTH (yTH h t (zEj g i j) (zCj g i j)) t (zbump (zEj g i j) (eg g i (6 + j)) (zmj (eg g i) j) 4) (if zEj g i j (111 + eg g i (6 + j)) = 0 then zbump (zCj g i j) (eg g i (6 + j)) 0 4 else zCj g i j)) n 0 0 := fun x5 => by
      rw [zEj_s hI hi (by omega), zCj_s hI hi (by omega), yTH.tw]
      refine zn_iinc (pc := 88) (ls2 := [_, _, _, _, _, _]) dT_build_88 rfl (Nat.le_of_ble_eq_true rfl) rfl ?_
      refine zs_goto (pc := 91) 36 dT_build_91 rfl ?_
      exact ih (j + 1) (by omega) x5
    by_cases e : j = 0
    · subst e
      have hm : zmt (-1) (zmj (eg g i) 0) := zmt_0
      refine zs_iload (pc := 36) dT_build_36 rfl ?_
      refine zs_aload_n (pc := 38) dT_build_38 rfl ?_
      refine zs_get (pc := 39) dT_build_39 fT_45 (by first | exact hT.1 | exact hT.2.1 | exact hT.2.2 | exact hC.1 | exact hC.2.1 | exact he.1 | exact he.2) (by rfl) ?_
      refine zn_icmp_ge (pc := 42) 94 dT_build_42 rfl (by omega) (by omega) (fun h9 => absurd h9 (by omega)) (fun _ => ?_)
      refine zs_iload (pc := 45) dT_build_45 rfl ?_
      refine zn_if_ne (pc := 47) 54 dT_build_47 rfl (by omega) (fun h9 => absurd h9 (by omega)) (fun _ => ?_)
      refine zs_iconst (pc := 50) dT_build_50 zi_m1 ?_
      refine zs_goto (pc := 51) 73 dT_build_51 rfl ?_
      refine zs_istore (pc := 73) (ls2 := [_, _, _, _, _, _]) dT_build_73 (Nat.le_of_ble_eq_true rfl) rfl ?_
      refine zs_aload_n (pc := 75) dT_build_75 rfl ?_
      refine zs_aload_n (pc := 76) dT_build_76 rfl ?_
      refine zs_get (pc := 77) dT_build_77 fT_50 (by first | exact hT.1 | exact hT.2.1 | exact hT.2.2 | exact hC.1 | exact hC.2.1 | exact he.1 | exact he.2) (by rfl) ?_
      refine zs_iload (pc := 80) dT_build_80 rfl ?_
      refine zn_iald (pc := 82) dT_build_82 (by first | exact hT.1 | exact hT.2.1 | exact hT.2.2 | exact hC.1 | exact hC.2.1 | exact he.1 | exact he.2) (by omega) (by first | decide | assumption) ?_
      rw [hq]
      refine zs_iload (pc := 83) dT_build_83 rfl ?_
      refine zcV0_2 (pc := 85) (d2 := d - 1) (s_T_countCode hl (by omega) hT hc hm hEb) dT_build_85 kT_56 mdT_countCode miT_countCode mvT_countCode rfl (by first | exact hT.1 | exact he.1) rfl (Nat.le_of_ble_eq_true rfl) (by omega) (by omega) (by omega) ?_
      exact hz _
    · have hq2 := hA1 (6 + (j - 1)) (by omega)
      have hc2 := hO.2.2.2.2.2.2.1 (j - 1) (by omega)
      have hm : zmt (nI (zcom (eg g i (6 + (j - 1))) (eg g i (6 + j)))) (zmj (eg g i) j) := by
        unfold zmj
        rw [if_neg e]
        exact zmt_s zcom_le
      refine zs_iload (pc := 36) dT_build_36 rfl ?_
      refine zs_aload_n (pc := 38) dT_build_38 rfl ?_
      refine zs_get (pc := 39) dT_build_39 fT_45 (by first | exact hT.1 | exact hT.2.1 | exact hT.2.2 | exact hC.1 | exact hC.2.1 | exact he.1 | exact he.2) (by rfl) ?_
      refine zn_icmp_ge (pc := 42) 94 dT_build_42 rfl (by omega) (by omega) (fun h9 => absurd h9 (by omega)) (fun _ => ?_)
      refine zs_iload (pc := 45) dT_build_45 rfl ?_
      refine zn_if_ne (pc := 47) 54 dT_build_47 rfl (by omega) (fun _ => ?_) (fun h9 => absurd h9 (by omega))
      refine zs_aload_n (pc := 54) dT_build_54 rfl ?_
      refine zs_get (pc := 55) dT_build_55 fT_50 (by first | exact hT.1 | exact hT.2.1 | exact hT.2.2 | exact hC.1 | exact hC.2.1 | exact he.1 | exact he.2) (by rfl) ?_
      refine zs_iload (pc := 58) dT_build_58 rfl ?_
      refine zs_iconst (pc := 60) dT_build_60 zi_1 ?_
      refine zn_isub (pc := 61) dT_build_61 (by omega) ?_
      refine zn_iald (pc := 62) dT_build_62 (by first | exact hT.1 | exact hT.2.1 | exact hT.2.2 | exact hC.1 | exact hC.2.1 | exact he.1 | exact he.2) (by omega) (by first | decide | assumption) ?_
      rw [hq2]
      refine zs_aload_n (pc := 63) dT_build_63 rfl ?_
      refine zs_get (pc := 64) dT_build_64 fT_50 (by first | exact hT.1 | exact hT.2.1 | exact hT.2.2 | exact hC.1 | exact hC.2.1 | exact he.1 | exact he.2) (by rfl) ?_
      refine zs_iload (pc := 67) dT_build_67 rfl ?_
      refine zn_iald (pc := 69) dT_build_69 (by first | exact hT.1 | exact hT.2.1 | exact hT.2.2 | exact hC.1 | exact hC.2.1 | exact he.1 | exact he.2) (by omega) (by first | decide | assumption) ?_
      rw [hq]
      refine zcSN1_2 (pc := 70) (d2 := d - 1) (s_X_commonDigits hl hc2 hc) dT_build_70 knT_53 mdX_commonDigits msX_commonDigits rfl (Nat.le_of_ble_eq_true rfl) (by omega) (by omega) (by omega) ?_
      refine zs_istore (pc := 73) (ls2 := [_, _, _, _, _, _]) dT_build_73 (Nat.le_of_ble_eq_true rfl) rfl ?_
      refine zs_aload_n (pc := 75) dT_build_75 rfl ?_
      refine zs_aload_n (pc := 76) dT_build_76 rfl ?_
      refine zs_get (pc := 77) dT_build_77 fT_50 (by first | exact hT.1 | exact hT.2.1 | exact hT.2.2 | exact hC.1 | exact hC.2.1 | exact he.1 | exact he.2) (by rfl) ?_
      refine zs_iload (pc := 80) dT_build_80 rfl ?_
      refine zn_iald (pc := 82) dT_build_82 (by first | exact hT.1 | exact hT.2.1 | exact hT.2.2 | exact hC.1 | exact hC.2.1 | exact he.1 | exact he.2) (by omega) (by first | decide | assumption) ?_
      rw [hq]
      refine zs_iload (pc := 83) dT_build_83 rfl ?_
      refine zcV0_2 (pc := 85) (d2 := d - 1) (s_T_countCode hl (by omega) hT hc hm hEb) dT_build_85 kT_56 mdT_countCode miT_countCode mvT_countCode rfl (by first | exact hT.1 | exact he.1) rfl (Nat.le_of_ble_eq_true rfl) (by omega) (by omega) (by omega) ?_
      exact hz _
theorem lp_T_build {Γ : zG} {l : Launch} (hl : l.stackTraces = false) {d : Nat} (hd : 2 ≤ d) {h : zH} {n : Nat} {B r t : Nat} {g : Nat → Nat} {p : Nat → Nat} {Q : Nat → Nat → Nat} (h0 : h t = some (zTo t)) (hC0 : CH h r p Q (zFg g)) (hp : PM p) (hA : ∀ j, j < g 0 → zAg (Q (p j)) (eg g j)) (hI : IG B g) (hdj : r + 42 ≤ t ∨ t + 3 ≤ r) : ∀ a i, a + i = g 0 → ∀ x3 x4 x5, Z Γ l mT_build d 0 0 (zFin Γ (zR none (yTH h t (zEj g (g 0) 0) (zCj g (g 0) 0)) n) 0 0) 18 [some (.ref t), some (.ref r), some (.int (nI i)), x3, x4, x5] [] (yTH h t (zEj g i 0) (zCj g i 0)) n 0 0 := by
  have i0 := hI.1
  have e1 : zFg g 1 = g 0 := rfl
  intro a
  induction a with
  | zero =>
    intro i hi x3 x4 x5
    obtain rfl : i = g 0 := by omega
    have hC := hC0.fr (yTH.fr (t := t) (E := zEj g (g 0) 0) (C := zCj g (g 0) 0)) (by omega)
    refine zs_iload_n (pc := 18) dT_build_18 rfl ?_
    refine zs_aload_n (pc := 19) dT_build_19 rfl ?_
    refine zs_get (pc := 20) dT_build_20 fT_35 (by first | exact hT.1 | exact hT.2.1 | exact hT.2.2 | exact hC.1 | exact hC.2.1 | exact he.1 | exact he.2) (by rfl) ?_
    refine zn_icmp_ge (pc := 23) 100 dT_build_23 rfl (by omega) (by omega) (fun _ => ?_) (fun h9 => absurd h9 (by omega))
    exact zs_vret (pc := 100) dT_build_100 rfl (by omega) (by omega) (⟨rfl, rfl, rfl⟩)
  | succ a ih =>
    intro i hi x3 x4 x5
    have hC := hC0.fr (yTH.fr (t := t) (E := zEj g i 0) (C := zCj g i 0)) (by omega)
    refine zs_iload_n (pc := 18) dT_build_18 rfl ?_
    refine zs_aload_n (pc := 19) dT_build_19 rfl ?_
    refine zs_get (pc := 20) dT_build_20 fT_35 (by first | exact hT.1 | exact hT.2.1 | exact hT.2.2 | exact hC.1 | exact hC.2.1 | exact he.1 | exact he.2) (by rfl) ?_
    refine zn_icmp_ge (pc := 23) 100 dT_build_23 rfl (by omega) (by omega) (fun h9 => absurd h9 (by omega)) (fun _ => ?_)
    refine zs_aload_n (pc := 26) dT_build_26 rfl ?_
    refine zs_get (pc := 27) dT_build_27 fT_41 (by first | exact hT.1 | exact hT.2.1 | exact hT.2.2 | exact hC.1 | exact hC.2.1 | exact he.1 | exact he.2) (by rfl) ?_
    refine zs_iload_n (pc := 30) dT_build_30 rfl ?_
    refine zn_aald (pc := 31) (Or.inl rfl) dT_build_31 (by first | exact hT.1 | exact hT.2.1 | exact hT.2.2 | exact hC.1 | exact hC.2.1 | exact he.1 | exact he.2) (by omega) (by decide) (by rfl) ?_
    refine zs_astore_n (pc := 32) (ls2 := [_, _, _, _, _, _]) dT_build_32 (Nat.le_of_ble_eq_true rfl) rfl ?_
    refine zs_iconst (pc := 33) dT_build_33 zi_0 ?_
    refine zs_istore (pc := 34) (ls2 := [_, _, _, _, _, _]) dT_build_34 (Nat.le_of_ble_eq_true rfl) rfl ?_
    exact lpi_T_build hl hd h0 hC0 hp hA hI hdj (by omega) (fun x5 => ih (i + 1) (by omega) _ _ x5) (eg g i 5) 0 rfl _
theorem s_T_build {Γ : zG} {l : Launch} (hl : l.stackTraces = false) {d : Nat} (hd : 2 ≤ d) {h : zH} {n : Nat} {B r t : Nat} {g E C : Nat → Nat} (hT : TH h t E C) (hR : CR h r g) (hI : IG B g) (hdj : r + 42 ≤ t ∨ t + 3 ≤ r) : zC Γ l d mT_build [.ref t, .ref r] h n 0 0 (zR none (yTH h t (zEj g (g 0) 0) (zCj g (g 0) 0)) n) := by
  obtain ⟨p, Q, hC, hp, hA⟩ := hR
  have h9 := lp_T_build (Γ := Γ) hl hd (n := n) hT.1 hC hp hA hI hdj (g 0) 0 rfl none none none
  rw [zEj_0, zCj_0] at h9
  refine zC_of (ls := [some (.ref t), some (.ref r), none, none, none, none]) hl (by decide +kernel) rfl (Nat.le_of_ble_eq_true rfl) rfl ?_
  refine zs_aload_n (pc := 0) dT_build_0 rfl ?_
  refine zs_get (pc := 1) dT_build_1 fT_11 (by first | exact hT.1 | exact hT.2.1 | (rw [zu_n (by omega)]; exact hT.1) | (rw [zu_n (by omega)]; exact hT.2.2)) (by rfl) ?_
  refine zs_iconst (pc := 4) dT_build_4 zi_0 ?_
  refine zcS0_2 (pc := 5) (d2 := d - 1) (s_A_fill hl (by decide) hT.2.1) dT_build_5 kT_29 mdA_fill msA_fill rfl (Nat.le_of_ble_eq_true rfl) (by omega) (by omega) (by omega) ?_
  refine zs_aload_n (pc := 8) dT_build_8 rfl ?_
  refine zs_get (pc := 9) dT_build_9 fT_15 (by first | exact hT.1 | exact hT.2.1 | (rw [zu_n (by omega)]; exact hT.1) | (rw [zu_n (by omega)]; exact hT.2.2)) (by rfl) ?_
  refine zs_iconst (pc := 12) dT_build_12 zi_0 ?_
  refine zcS0_2 (pc := 13) (d2 := d - 1) (s_A_fill (N := 1111) hl (by decide) (by rw [zu_n (by omega)]; exact hT.2.2)) dT_build_13 kT_29 mdA_fill msA_fill rfl (Nat.le_of_ble_eq_true rfl) (by omega) (by omega) (by omega) ?_
  refine zs_iconst (pc := 16) dT_build_16 zi_0 ?_
  refine zs_istore_n (pc := 17) (ls2 := [_, _, _, _, _, _]) dT_build_17 (Nat.le_of_ble_eq_true rfl) rfl ?_
  exact h9

