/-! the model: merging -/
theorem zput_o {g q : Nat → Nat} {t k i : Nat} (hkt : k ≠ t) (hi : i < 12) : zput g t q (6 + 12 * k + i) = eg g k i := eg_put_o hkt hi
theorem zabs_ok {q q2 : Nat → Nat} (hb : zEb q) (hb2 : zEb q2) (hf : zabs q q2 (q2 5) 5 ≤ 6) {j : Nat} (hj : j ≤ q2 5) : zEb (zabs q q2 j) := zabs_b hb hb2 hf j hj
theorem lp_M_mergeIt {Γ : zG} {l : Launch} (hl : l.stackTraces = false) {d : Nat} (hd : 4 ≤ d) {h : zH} {n a : Nat} {g : Nat → Nat} {s3 s5 s6 s7 s8 s10 s12 s16 s17 s18 s19 s20 : Int32} {B k t : Nat} {x y : Int32} (hI : IG B g) (hB : B < 2 ^ 20) (f1 : k < g 0) (e1 : t < g 0) (hkt : k ≠ t) (hf : zabs (eg g t) (eg g k) (eg g k 5) 5 ≤ 6) {FN : List Frame → Array Value → State → State → Prop} (K : Z Γ l mM_mergeIt d 0 0 FN 146 [some (.ref a), some (.int x), some (.int y), some (.int (nI k)), some (.int (nI t)), some (.int (nI (6 + 12 * k))), some (.int (nI (6 + 12 * t))), some (.int (nI (eg g k 5)))] [] (z2 h a (zAr 0 246 (zput g t (zabs (eg g t) (eg g k) (eg g k 5)))) (zMo a s3 s5 s6 s7 s8 s10 s12 s16 s17 s18 s19 s20)) n 0 0) : ∀ i j, i + j = eg g k 5 → Z Γ l mM_mergeIt d 0 0 FN 96 [some (.ref a), some (.int x), some (.int y), some (.int (nI k)), some (.int (nI t)), some (.int (nI (6 + 12 * k))), some (.int (nI (6 + 12 * t))), some (.int (nI j))] [] (z2 h a (zAr 0 246 (zput g t (zabs (eg g t) (eg g k) j))) (zMo a s3 s5 s6 s7 s8 s10 s12 s16 s17 s18 s19 s20)) n 0 0 := by
  have i0 := hI.1
  have h5 := hI.s6 k f1
  have hc := hI.c f1
  have hbt := hI.b hB e1
  have hbk := hI.b hB f1
  intro i
  induction i with
  | zero =>
    intro j hj
    obtain rfl : j = eg g k 5 := by omega
    have er := zput_o (g := g) (q := zabs (eg g t) (eg g k) (eg g k 5)) (i := 5) hkt (by decide)
    refine zs_iload (pc := 96) dM_mergeIt_96 rfl ?_
    refine zs_aload_n (pc := 98) dM_mergeIt_98 rfl ?_
    refine zs_get (pc := 99) dM_mergeIt_99 fM_9 (by first | exact z2_a | exact z2_1) (by rfl) ?_
    refine zs_iload (pc := 102) dM_mergeIt_102 rfl ?_
    refine zs_iconst (pc := 104) dM_mergeIt_104 zi_5 ?_
    refine zn_iadd (pc := 105) dM_mergeIt_105 ?_
    refine zn_iald (pc := 106) dM_mergeIt_106 (by first | exact z2_a | exact z2_1) (by omega) (by first | decide | assumption) ?_
    rw [er]
    refine zn_icmp_ge (pc := 107) 146 dM_mergeIt_107 rfl (by omega) (by omega) (fun _ => ?_) (fun h9 => absurd h9 (by omega))
    exact K
  | succ i ih =>
    intro j hj
    have hz := ih (j + 1) (by omega)
    have er := zput_o (g := g) (q := zabs (eg g t) (eg g k) j) (i := 5) hkt (by decide)
    have hbj := zabs_ok hbt hbk hf (j := j) (by omega)
    have ee : ∀ i, i < 12 → eg (zput g t (zabs (eg g t) (eg g k) j)) t i = zabs (eg g t) (eg g k) j i := fun i hi => eg_put_s hi
    have ek : eg (zput g t (zabs (eg g t) (eg g k) j)) k (6 + j) = eg g k (6 + j) := eg_put_o hkt (by omega)
    have hcj := hc j (by omega)
    have h2 := zabs_mono2 (q := eg g t) (q2 := eg g k) (j + 1) (eg g k 5 - (j + 1))
    rw [show j + 1 + (eg g k 5 - (j + 1)) = eg g k 5 by omega] at h2
    rw [zabs_s] at hz h2
    obtain ⟨b0, b1, b2, b3, b4, b5, b6⟩ := id hbj
    have hm := zmany_eq (dn := 3) (v := eg g k (6 + j)) ee b5
    have hmz : 0 < zmany (zabs (eg g t) (eg g k) j) 3 (eg g k (6 + j)) ↔ zin (zabs (eg g t) (eg g k) j) (eg g k (6 + j)) = true := by rw [← zin_dec, decide_eq_true_iff]
    have hm6 : zmany (zabs (eg g t) (eg g k) j) 3 (eg g k (6 + j)) ≤ zabs (eg g t) (eg g k) j 5 := zcnt_le _ _
    have hc6 : ∀ i, i < eg (zput g t (zabs (eg g t) (eg g k) j)) t 5 → eg (zput g t (zabs (eg g t) (eg g k) j)) t (6 + i) < 1000 := fun i hi => by
      rw [ee 5 (by decide)] at hi
      rw [ee (6 + i) (by omega)]
      exact b6 i hi
    refine zs_iload (pc := 96) dM_mergeIt_96 rfl ?_
    refine zs_aload_n (pc := 98) dM_mergeIt_98 rfl ?_
    refine zs_get (pc := 99) dM_mergeIt_99 fM_9 (by first | exact z2_a | exact z2_1) (by rfl) ?_
    refine zs_iload (pc := 102) dM_mergeIt_102 rfl ?_
    refine zs_iconst (pc := 104) dM_mergeIt_104 zi_5 ?_
    refine zn_iadd (pc := 105) dM_mergeIt_105 ?_
    refine zn_iald (pc := 106) dM_mergeIt_106 (by first | exact z2_a | exact z2_1) (by omega) (by first | decide | assumption) ?_
    rw [er]
    refine zn_icmp_ge (pc := 107) 146 dM_mergeIt_107 rfl (by omega) (by omega) (fun h9 => absurd h9 (by omega)) (fun _ => ?_)
    refine zs_aload_n (pc := 110) dM_mergeIt_110 rfl ?_
    refine zs_iload (pc := 111) dM_mergeIt_111 rfl ?_
    refine zs_iconst (pc := 113) dM_mergeIt_113 zi_3 ?_
    refine zs_aload_n (pc := 114) dM_mergeIt_114 rfl ?_
    refine zs_iload_n (pc := 115) dM_mergeIt_115 rfl ?_
    refine zs_iload (pc := 116) dM_mergeIt_116 rfl ?_
    refine zcV1_2 (pc := 118) (d2 := d - 1) (s_M_codeOf hl (by omega) (by omega) (by omega)) dM_mergeIt_118 kM_62 mdM_codeOf miM_codeOf mvM_codeOf rfl (by exact z2_a) rfl (Nat.le_of_ble_eq_true rfl) (by omega) (by omega) (by omega) ?_
    rw [ek]
    refine zcV1_3 (pc := 121) (d2 := d - 1) (s_M_many hl (by omega) (by omega) (by rw [ee 5 (by decide)]; exact b5) hc6 (by decide) (by omega)) dM_mergeIt_121 kM_70 mdM_many miM_many mvM_many rfl (by exact z2_a) rfl (Nat.le_of_ble_eq_true rfl) (by omega) (by omega) (by omega) ?_
    rw [hm]
    by_cases e : zin (zabs (eg g t) (eg g k) j) (eg g k (6 + j)) = true
    · rw [if_pos e] at hz
      have hm9 := hmz.mpr e
      refine zn_if_ne (pc := 124) 140 dM_mergeIt_124 rfl (by omega) (fun _ => ?_) (fun h9 => absurd h9 (by omega))
      refine zn_iinc (pc := 140) (ls2 := [_, _, _, _, _, _, _, _]) dM_mergeIt_140 rfl (Nat.le_of_ble_eq_true rfl) rfl ?_
      refine zs_goto (pc := 143) 96 dM_mergeIt_143 rfl ?_
      exact hz
    · rw [if_neg e] at hz h2
      rw [zins_5] at h2
      have hm9 : ¬ 0 < zmany (zabs (eg g t) (eg g k) j) 3 (eg g k (6 + j)) := fun q => e (hmz.mp q)
      have ew : zput (zput g t (zabs (eg g t) (eg g k) j)) t (zins (eg (zput g t (zabs (eg g t) (eg g k) j)) t) (eg g k (6 + j))) = zput g t (zins (zabs (eg g t) (eg g k) j) (eg g k (6 + j))) := by
        have e8 : ∀ q : Nat → Nat, zput (zput g t (zabs (eg g t) (eg g k) j)) t q = zput g t q := fun q => by
          funext i
          unfold zput
          (repeat' split) <;> first | rfl | (exfalso; omega) | (congr 1; omega) | omega
        rw [e8]
        refine zput_ext fun i hi => ?_
        have e5 := ee 5 (by decide)
        have ep : zpos (eg (zput g t (zabs (eg g t) (eg g k) j)) t) (eg g k (6 + j)) (zabs (eg g t) (eg g k) j 5) = zpos (zabs (eg g t) (eg g k) j) (eg g k (6 + j)) (zabs (eg g t) (eg g k) j 5) := zAg.pos _ _ (fun i hi => ee (6 + i) (by omega))
        unfold zins
        rw [e5, ep, ee i hi]
        by_cases e7 : i = 0
        · subst e7
          (repeat' split) <;> first | rfl | omega
        · rw [ee (i - 1) (by omega)]
      refine zn_if_ne (pc := 124) 140 dM_mergeIt_124 rfl (by omega) (fun h9 => absurd h9 (by omega)) (fun _ => ?_)
      refine zs_aload_n (pc := 127) dM_mergeIt_127 rfl ?_
      refine zs_iload (pc := 128) dM_mergeIt_128 rfl ?_
      refine zs_aload_n (pc := 130) dM_mergeIt_130 rfl ?_
      refine zs_iload_n (pc := 131) dM_mergeIt_131 rfl ?_
      refine zs_iload (pc := 132) dM_mergeIt_132 rfl ?_
      refine zcV1_2 (pc := 134) (d2 := d - 1) (s_M_codeOf hl (by omega) (by omega) (by omega)) dM_mergeIt_134 kM_62 mdM_codeOf miM_codeOf mvM_codeOf rfl (by exact z2_a) rfl (Nat.le_of_ble_eq_true rfl) (by omega) (by omega) (by omega) ?_
      rw [ek]
      refine zcV0_2 (pc := 137) (d2 := d - 1) (s_M_puts hl (by omega) (by omega) (by rw [ee 5 (by decide)]; omega) hc6 hcj) dM_mergeIt_137 kM_107 mdM_puts miM_puts mvM_puts rfl (by exact z2_a) rfl (Nat.le_of_ble_eq_true rfl) (by omega) (by omega) (by omega) ?_
      rw [ew]
      refine zn_iinc (pc := 140) (ls2 := [_, _, _, _, _, _, _, _]) dM_mergeIt_140 rfl (Nat.le_of_ble_eq_true rfl) rfl ?_
      refine zs_goto (pc := 143) 96 dM_mergeIt_143 rfl ?_
      exact hz
theorem s_M_mergeIt {Γ : zG} {l : Launch} (hl : l.stackTraces = false) {d : Nat} (hd : 4 ≤ d) {h : zH} {n a : Nat} {g : Nat → Nat} {s3 s5 s6 s7 s8 s10 s12 s16 s17 s18 s19 s20 : Int32} {B : Nat} (hI : IG B g) (hB : B < 2 ^ 20) (x y : Int32) : zC Γ l d mM_mergeIt [.ref a, .int x, .int y] (z2 h a (zAr 0 246 (g)) (zMo a s3 s5 s6 s7 s8 s10 s12 s16 s17 s18 s19 s20)) n 0 0 (zR (some (.int (zma (zopMerge g x y)))) (z2 h a (zAr 0 246 ((zopMerge g x y).2.2)) (zMo a s3 s5 s6 s7 (zmth s8 (zopMerge g x y)) s10 s12 s16 s17 s18 s19 s20)) n) := by
  have i0 := hI.1
  unfold zopMerge
  refine zC_of (ls := [some (.ref a), some (.int x), some (.int y), none, none, none, none, none]) hl (by decide +kernel) rfl (Nat.le_of_ble_eq_true rfl) rfl ?_
  cases hH : zHas g x with
  | false =>
    rw [if_neg (by rintro ⟨q, -⟩; cases q)]
    have tail : ∀ yv : Int32, Z Γ l mM_mergeIt d 0 0 (zFin Γ (zR (some (.int (zma (((1, 0, g) : zOp))))) (z2 h a (zAr 0 246 ((((1, 0, g) : zOp)).2.2)) (zMo a s3 s5 s6 s7 (zmth s8 (((1, 0, g) : zOp))) s10 s12 s16 s17 s18 s19 s20)) n) 0 0) 13 [some (.ref a), some (.int x), some (.int y), some (.int (-1)), some (.int yv), none, none, none] [] (z2 h a (zAr 0 246 (g)) (zMo a s3 s5 s6 s7 s8 s10 s12 s16 s17 s18 s19 s20)) n 0 0 := fun yv => by
      refine zs_iload_n (pc := 13) dM_mergeIt_13 rfl ?_
      refine zs_iconst (pc := 14) dM_mergeIt_14 zi_m1 ?_
      refine zs_icmp_eq (pc := 15) 24 dM_mergeIt_15 rfl (fun _ => ?_) (fun h9 => absurd h9 (fun q => q rfl))
      refine zs_aload_n (pc := 24) dM_mergeIt_24 rfl ?_
      refine zs_iconst (pc := 25) dM_mergeIt_25 zi_1 ?_
      refine zcV1_1 (pc := 26) (d2 := d - 1) (s_M_throwing hl) dM_mergeIt_26 kM_90 mdM_throwing miM_throwing mvM_throwing rfl (by exact z2_a) rfl (Nat.le_of_ble_eq_true rfl) (by omega) (by omega) (by omega) ?_
      exact zs_iret (pc := 29) dM_mergeIt_29 rfl rfl (by omega) (by omega) (⟨rfl, rfl, rfl⟩)
    cases hH2 : zHas g y with
    | false =>
      refine zs_aload_n (pc := 0) dM_mergeIt_0 rfl ?_
      refine zs_iload_n (pc := 1) dM_mergeIt_1 rfl ?_
      refine zcV1_1 (pc := 2) (d2 := d - 1) (s_M_find_n hl (by omega) i0 hH) dM_mergeIt_2 kM_102 mdM_find miM_find mvM_find rfl (by exact z2_a) rfl (Nat.le_of_ble_eq_true rfl) (by omega) (by omega) (by omega) ?_
      refine zs_istore_n (pc := 5) (ls2 := [_, _, _, _, _, _, _, _]) dM_mergeIt_5 (Nat.le_of_ble_eq_true rfl) rfl ?_
      refine zs_aload_n (pc := 6) dM_mergeIt_6 rfl ?_
      refine zs_iload_n (pc := 7) dM_mergeIt_7 rfl ?_
      refine zcV1_1 (pc := 8) (d2 := d - 1) (s_M_find_n hl (by omega) i0 hH2) dM_mergeIt_8 kM_102 mdM_find miM_find mvM_find rfl (by exact z2_a) rfl (Nat.le_of_ble_eq_true rfl) (by omega) (by omega) (by omega) ?_
      refine zs_istore (pc := 11) (ls2 := [_, _, _, _, _, _, _, _]) dM_mergeIt_11 (Nat.le_of_ble_eq_true rfl) rfl ?_
      exact tail _
    | true =>
      obtain ⟨k1, k2, k3⟩ := zHas_y hH2
      refine zs_aload_n (pc := 0) dM_mergeIt_0 rfl ?_
      refine zs_iload_n (pc := 1) dM_mergeIt_1 rfl ?_
      refine zcV1_1 (pc := 2) (d2 := d - 1) (s_M_find_n hl (by omega) i0 hH) dM_mergeIt_2 kM_102 mdM_find miM_find mvM_find rfl (by exact z2_a) rfl (Nat.le_of_ble_eq_true rfl) (by omega) (by omega) (by omega) ?_
      refine zs_istore_n (pc := 5) (ls2 := [_, _, _, _, _, _, _, _]) dM_mergeIt_5 (Nat.le_of_ble_eq_true rfl) rfl ?_
      refine zs_aload_n (pc := 6) dM_mergeIt_6 rfl ?_
      refine zs_iload_n (pc := 7) dM_mergeIt_7 rfl ?_
      refine zcV1_1 (pc := 8) (d2 := d - 1) (s_M_find_y hl (by omega) i0 k1 k2 k3) dM_mergeIt_8 kM_102 mdM_find miM_find mvM_find rfl (by exact z2_a) rfl (Nat.le_of_ble_eq_true rfl) (by omega) (by omega) (by omega) ?_
      refine zs_istore (pc := 11) (ls2 := [_, _, _, _, _, _, _, _]) dM_mergeIt_11 (Nat.le_of_ble_eq_true rfl) rfl ?_
      exact tail _
  | true =>
    obtain ⟨f1, f2, f3⟩ := zHas_y hH
    have hkn : ∀ k, k < g 0 → ¬ nI k = -1 := fun k hk q => by
      have h9 := nI_pos (n := k) (by omega)
      rw [q] at h9
      exact h9 (by decide)
    cases hH2 : zHas g y with
    | false =>
      rw [if_neg (by rintro ⟨-, q⟩; cases q)]
      refine zs_aload_n (pc := 0) dM_mergeIt_0 rfl ?_
      refine zs_iload_n (pc := 1) dM_mergeIt_1 rfl ?_
      refine zcV1_1 (pc := 2) (d2 := d - 1) (s_M_find_y hl (by omega) i0 f1 f2 f3) dM_mergeIt_2 kM_102 mdM_find miM_find mvM_find rfl (by exact z2_a) rfl (Nat.le_of_ble_eq_true rfl) (by omega) (by omega) (by omega) ?_
      refine zs_istore_n (pc := 5) (ls2 := [_, _, _, _, _, _, _, _]) dM_mergeIt_5 (Nat.le_of_ble_eq_true rfl) rfl ?_
      refine zs_aload_n (pc := 6) dM_mergeIt_6 rfl ?_
      refine zs_iload_n (pc := 7) dM_mergeIt_7 rfl ?_
      refine zcV1_1 (pc := 8) (d2 := d - 1) (s_M_find_n hl (by omega) i0 hH2) dM_mergeIt_8 kM_102 mdM_find miM_find mvM_find rfl (by exact z2_a) rfl (Nat.le_of_ble_eq_true rfl) (by omega) (by omega) (by omega) ?_
      refine zs_istore (pc := 11) (ls2 := [_, _, _, _, _, _, _, _]) dM_mergeIt_11 (Nat.le_of_ble_eq_true rfl) rfl ?_
      refine zs_iload_n (pc := 13) dM_mergeIt_13 rfl ?_
      refine zs_iconst (pc := 14) dM_mergeIt_14 zi_m1 ?_
      refine zs_icmp_eq (pc := 15) 24 dM_mergeIt_15 rfl (fun h9 => absurd h9 (hkn _ f1)) (fun _ => ?_)
      refine zs_iload (pc := 18) dM_mergeIt_18 rfl ?_
      refine zs_iconst (pc := 20) dM_mergeIt_20 zi_m1 ?_
      refine zs_icmp_ne (pc := 21) 30 dM_mergeIt_21 rfl (fun h9 => absurd h9 (fun q => q rfl)) (fun _ => ?_)
      refine zs_aload_n (pc := 24) dM_mergeIt_24 rfl ?_
      refine zs_iconst (pc := 25) dM_mergeIt_25 zi_1 ?_
      refine zcV1_1 (pc := 26) (d2 := d - 1) (s_M_throwing hl) dM_mergeIt_26 kM_90 mdM_throwing miM_throwing mvM_throwing rfl (by exact z2_a) rfl (Nat.le_of_ble_eq_true rfl) (by omega) (by omega) (by omega) ?_
      exact zs_iret (pc := 29) dM_mergeIt_29 rfl rfl (by omega) (by omega) (⟨rfl, rfl, rfl⟩)
    | true =>
      rw [if_pos ⟨rfl, rfl⟩]
      obtain ⟨k1, k2, k3⟩ := zHas_y hH2
      by_cases exy : x = y
      · rw [if_pos exy]
        subst exy
        refine zs_aload_n (pc := 0) dM_mergeIt_0 rfl ?_
        refine zs_iload_n (pc := 1) dM_mergeIt_1 rfl ?_
        refine zcV1_1 (pc := 2) (d2 := d - 1) (s_M_find_y hl (by omega) i0 f1 f2 f3) dM_mergeIt_2 kM_102 mdM_find miM_find mvM_find rfl (by exact z2_a) rfl (Nat.le_of_ble_eq_true rfl) (by omega) (by omega) (by omega) ?_
        refine zs_istore_n (pc := 5) (ls2 := [_, _, _, _, _, _, _, _]) dM_mergeIt_5 (Nat.le_of_ble_eq_true rfl) rfl ?_
        refine zs_aload_n (pc := 6) dM_mergeIt_6 rfl ?_
        refine zs_iload_n (pc := 7) dM_mergeIt_7 rfl ?_
        refine zcV1_1 (pc := 8) (d2 := d - 1) (s_M_find_y hl (by omega) i0 f1 f2 f3) dM_mergeIt_8 kM_102 mdM_find miM_find mvM_find rfl (by exact z2_a) rfl (Nat.le_of_ble_eq_true rfl) (by omega) (by omega) (by omega) ?_
        refine zs_istore (pc := 11) (ls2 := [_, _, _, _, _, _, _, _]) dM_mergeIt_11 (Nat.le_of_ble_eq_true rfl) rfl ?_
        refine zs_iload_n (pc := 13) dM_mergeIt_13 rfl ?_
        refine zs_iconst (pc := 14) dM_mergeIt_14 zi_m1 ?_
        refine zs_icmp_eq (pc := 15) 24 dM_mergeIt_15 rfl (fun h9 => absurd h9 (hkn _ f1)) (fun _ => ?_)
        refine zs_iload (pc := 18) dM_mergeIt_18 rfl ?_
        refine zs_iconst (pc := 20) dM_mergeIt_20 zi_m1 ?_
        refine zs_icmp_ne (pc := 21) 30 dM_mergeIt_21 rfl (fun _ => ?_) (fun h9 => absurd h9 (hkn _ f1))
        refine zs_iload_n (pc := 30) dM_mergeIt_30 rfl ?_
        refine zs_iload (pc := 31) dM_mergeIt_31 rfl ?_
        refine zn_icmp_ne (pc := 33) 42 dM_mergeIt_33 rfl (by omega) (by omega) (fun h9 => absurd h9 (fun q => q rfl)) (fun _ => ?_)
        refine zs_aload_n (pc := 36) dM_mergeIt_36 rfl ?_
        refine zs_iconst (pc := 37) dM_mergeIt_37 zi_2 ?_
        refine zcV1_1 (pc := 38) (d2 := d - 1) (s_M_throwing hl) dM_mergeIt_38 kM_90 mdM_throwing miM_throwing mvM_throwing rfl (by exact z2_a) rfl (Nat.le_of_ble_eq_true rfl) (by omega) (by omega) (by omega) ?_
        exact zs_iret (pc := 41) dM_mergeIt_41 rfl rfl (by omega) (by omega) (⟨rfl, rfl, rfl⟩)
      · rw [if_neg exy]
        have hne : zAt g x ≠ zAt g y := fun q => exy (by rw [← f2, ← k2, q])
        generalize zAt g x = k at f1 f2 f3 hne ⊢
        generalize zAt g y = t at k1 k2 k3 hne ⊢
        have h5 := hI.s6 k f1
        have h5t := hI.s6 t k1
        have hsh : zshare (eg g k) (eg g t) ≤ eg g k 5 := zcnt_le _ _
        have e5 : g (6 + 12 * k + 5) = eg g k 5 := rfl
        have e5t : g (6 + 12 * t + 5) = eg g t 5 := rfl
        by_cases ebig : 6 < eg g k 5 + eg g t 5 - zshare (eg g k) (eg g t)
        · rw [if_pos ebig]
          refine zs_aload_n (pc := 0) dM_mergeIt_0 rfl ?_
          refine zs_iload_n (pc := 1) dM_mergeIt_1 rfl ?_
          refine zcV1_1 (pc := 2) (d2 := d - 1) (s_M_find_y hl (by omega) i0 f1 f2 f3) dM_mergeIt_2 kM_102 mdM_find miM_find mvM_find rfl (by exact z2_a) rfl (Nat.le_of_ble_eq_true rfl) (by omega) (by omega) (by omega) ?_
          refine zs_istore_n (pc := 5) (ls2 := [_, _, _, _, _, _, _, _]) dM_mergeIt_5 (Nat.le_of_ble_eq_true rfl) rfl ?_
          refine zs_aload_n (pc := 6) dM_mergeIt_6 rfl ?_
          refine zs_iload_n (pc := 7) dM_mergeIt_7 rfl ?_
          refine zcV1_1 (pc := 8) (d2 := d - 1) (s_M_find_y hl (by omega) i0 k1 k2 k3) dM_mergeIt_8 kM_102 mdM_find miM_find mvM_find rfl (by exact z2_a) rfl (Nat.le_of_ble_eq_true rfl) (by omega) (by omega) (by omega) ?_
          refine zs_istore (pc := 11) (ls2 := [_, _, _, _, _, _, _, _]) dM_mergeIt_11 (Nat.le_of_ble_eq_true rfl) rfl ?_
          refine zs_iload_n (pc := 13) dM_mergeIt_13 rfl ?_
          refine zs_iconst (pc := 14) dM_mergeIt_14 zi_m1 ?_
          refine zs_icmp_eq (pc := 15) 24 dM_mergeIt_15 rfl (fun h9 => absurd h9 (hkn _ f1)) (fun _ => ?_)
          refine zs_iload (pc := 18) dM_mergeIt_18 rfl ?_
          refine zs_iconst (pc := 20) dM_mergeIt_20 zi_m1 ?_
          refine zs_icmp_ne (pc := 21) 30 dM_mergeIt_21 rfl (fun _ => ?_) (fun h9 => absurd h9 (hkn _ k1))
          refine zs_iload_n (pc := 30) dM_mergeIt_30 rfl ?_
          refine zs_iload (pc := 31) dM_mergeIt_31 rfl ?_
          refine zn_icmp_ne (pc := 33) 42 dM_mergeIt_33 rfl (by omega) (by omega) (fun _ => ?_) (fun h9 => absurd h9 (hne))
          refine zs_iload_n (pc := 42) dM_mergeIt_42 rfl ?_
          refine zcS1_1 (pc := 43) (d2 := d - 1) (s_M_entryAt hl) dM_mergeIt_43 kM_51 mdM_entryAt msM_entryAt rfl (Nat.le_of_ble_eq_true rfl) (by omega) (by omega) (by omega) ?_
          refine zs_istore (pc := 46) (ls2 := [_, _, _, _, _, _, _, _]) dM_mergeIt_46 (Nat.le_of_ble_eq_true rfl) rfl ?_
          refine zs_iload (pc := 48) dM_mergeIt_48 rfl ?_
          refine zcS1_1 (pc := 50) (d2 := d - 1) (s_M_entryAt hl) dM_mergeIt_50 kM_51 mdM_entryAt msM_entryAt rfl (Nat.le_of_ble_eq_true rfl) (by omega) (by omega) (by omega) ?_
          refine zs_istore (pc := 53) (ls2 := [_, _, _, _, _, _, _, _]) dM_mergeIt_53 (Nat.le_of_ble_eq_true rfl) rfl ?_
          refine zs_aload_n (pc := 55) dM_mergeIt_55 rfl ?_
          refine zs_get (pc := 56) dM_mergeIt_56 fM_9 (by first | exact z2_a | exact z2_1) (by rfl) ?_
          refine zs_iload (pc := 59) dM_mergeIt_59 rfl ?_
          refine zs_iconst (pc := 61) dM_mergeIt_61 zi_5 ?_
          refine zn_iadd (pc := 62) dM_mergeIt_62 ?_
          refine zn_iald (pc := 63) dM_mergeIt_63 (by first | exact z2_a | exact z2_1) (by omega) (by first | decide | assumption) ?_
          refine zs_aload_n (pc := 64) dM_mergeIt_64 rfl ?_
          refine zs_get (pc := 65) dM_mergeIt_65 fM_9 (by first | exact z2_a | exact z2_1) (by rfl) ?_
          refine zs_iload (pc := 68) dM_mergeIt_68 rfl ?_
          refine zs_iconst (pc := 70) dM_mergeIt_70 zi_5 ?_
          refine zn_iadd (pc := 71) dM_mergeIt_71 ?_
          refine zn_iald (pc := 72) dM_mergeIt_72 (by first | exact z2_a | exact z2_1) (by omega) (by first | decide | assumption) ?_
          refine zn_iadd (pc := 73) dM_mergeIt_73 ?_
          refine zs_aload_n (pc := 74) dM_mergeIt_74 rfl ?_
          refine zs_iload_n (pc := 75) dM_mergeIt_75 rfl ?_
          refine zs_iload (pc := 76) dM_mergeIt_76 rfl ?_
          refine zcV1_2 (pc := 78) (d2 := d - 1) (s_M_common hl (by omega) hI f1 k1) dM_mergeIt_78 kM_127 mdM_common miM_common mvM_common rfl (by exact z2_a) rfl (Nat.le_of_ble_eq_true rfl) (by omega) (by omega) (by omega) ?_
          refine zn_isub (pc := 81) dM_mergeIt_81 (by omega) ?_
          refine zs_bipush (pc := 82) dM_mergeIt_82 (zi_b 6 (by decide)) ?_
          refine zn_icmp_le (pc := 84) 93 dM_mergeIt_84 rfl (by omega) (by omega) (fun h9 => absurd h9 (by omega)) (fun _ => ?_)
          refine zs_aload_n (pc := 87) dM_mergeIt_87 rfl ?_
          refine zs_iconst (pc := 88) dM_mergeIt_88 zi_3 ?_
          refine zcV1_1 (pc := 89) (d2 := d - 1) (s_M_throwing hl) dM_mergeIt_89 kM_90 mdM_throwing miM_throwing mvM_throwing rfl (by exact z2_a) rfl (Nat.le_of_ble_eq_true rfl) (by omega) (by omega) (by omega) ?_
          exact zs_iret (pc := 92) dM_mergeIt_92 rfl rfl (by omega) (by omega) (⟨rfl, rfl, rfl⟩)
        · rw [if_neg ebig]
          have hsz : zabs (eg g t) (eg g k) (eg g k 5) 5 + zshare (eg g k) (eg g t) ≤ eg g t 5 + eg g k 5 := zabs_sz (eg g k 5)
          have hbk := hI.b hB f1
          have hbt := hI.b hB k1
          have l1 := zabs_lo (q := eg g t) (q2 := eg g k) (j := 1) (by decide) (eg g k 5)
          have l2 := zabs_lo (q := eg g t) (q2 := eg g k) (j := 2) (by decide) (eg g k 5)
          have l3 := zabs_lo (q := eg g t) (q2 := eg g k) (j := 3) (by decide) (eg g k 5)
          have bb0 := hbk.2.1
          have bb1 := hbt.2.1
          have bb2 := hbk.2.2.1
          have bb3 := hbt.2.2.1
          generalize hA : zabs (eg g t) (eg g k) (eg g k 5) = A at l1 l2 l3 hsz
          have K : Z Γ l mM_mergeIt d 0 0 (zFin Γ (zR (some (.int (zma (((0, zmrg (eg g t) (eg g k) 5, zup (zlv (zput g t (zmrg (eg g t) (eg g k))) k) 4 (g 4 + 1)) : zOp))))) (z2 h a (zAr 0 246 ((((0, zmrg (eg g t) (eg g k) 5, zup (zlv (zput g t (zmrg (eg g t) (eg g k))) k) 4 (g 4 + 1)) : zOp)).2.2)) (zMo a s3 s5 s6 s7 (zmth s8 (((0, zmrg (eg g t) (eg g k) 5, zup (zlv (zput g t (zmrg (eg g t) (eg g k))) k) 4 (g 4 + 1)) : zOp))) s10 s12 s16 s17 s18 s19 s20)) n) 0 0) 146 [some (.ref a), some (.int x), some (.int y), some (.int (nI k)), some (.int (nI t)), some (.int (nI (6 + 12 * k))), some (.int (nI (6 + 12 * t))), some (.int (nI (eg g k 5)))] [] (z2 h a (zAr 0 246 (zput g t A)) (zMo a s3 s5 s6 s7 s8 s10 s12 s16 s17 s18 s19 s20)) n 0 0 := by
            have r1 := zput_o (g := g) (q := A) (i := 1) hne (by decide)
            have r1t : zput g t A (6 + 12 * t + 1) = eg g t 1 := by rw [zput_at (by decide), l1]
            have w1 : zup (zput g t A) (6 + 12 * t + 1) (max (eg g k 1) (eg g t 1)) = zput g t (zup A 1 (max (eg g k 1) (eg g t 1))) := zup_put (by decide)
            refine zs_aload_n (pc := 146) dM_mergeIt_146 rfl ?_
            refine zs_get (pc := 147) dM_mergeIt_147 fM_9 (by first | exact z2_a | exact z2_1) (by rfl) ?_
            refine zs_iload (pc := 150) dM_mergeIt_150 rfl ?_
            refine zs_iconst (pc := 152) dM_mergeIt_152 zi_1 ?_
            refine zn_iadd (pc := 153) dM_mergeIt_153 ?_
            refine zs_aload_n (pc := 154) dM_mergeIt_154 rfl ?_
            refine zs_get (pc := 155) dM_mergeIt_155 fM_9 (by first | exact z2_a | exact z2_1) (by rfl) ?_
            refine zs_iload (pc := 158) dM_mergeIt_158 rfl ?_
            refine zs_iconst (pc := 160) dM_mergeIt_160 zi_1 ?_
            refine zn_iadd (pc := 161) dM_mergeIt_161 ?_
            refine zn_iald (pc := 162) dM_mergeIt_162 (by first | exact z2_a | exact z2_1) (by omega) (by first | decide | assumption) ?_
            rw [r1]
            refine zs_aload_n (pc := 163) dM_mergeIt_163 rfl ?_
            refine zs_get (pc := 164) dM_mergeIt_164 fM_9 (by first | exact z2_a | exact z2_1) (by rfl) ?_
            refine zs_iload (pc := 167) dM_mergeIt_167 rfl ?_
            refine zs_iconst (pc := 169) dM_mergeIt_169 zi_1 ?_
            refine zn_iadd (pc := 170) dM_mergeIt_170 ?_
            refine zn_iald (pc := 171) dM_mergeIt_171 (by first | exact z2_a | exact z2_1) (by omega) (by first | decide | assumption) ?_
            rw [r1t]
            refine zn_mmax (pc := 172) dM_mergeIt_172 kM_130 (Nat.le_of_ble_eq_true rfl) (by omega) (by omega) (by omega) (by omega) ?_
            refine zn_iast (pc := 175) dM_mergeIt_175 (by first | exact z2_a | exact z2_1) (by omega) (by first | decide | assumption) ?_
            first | rw [z2_G] | rw [z2_q2] | rw [z2_q3] | rw [z2_q4] | rw [z2_q5] | rw [z2_q6] | rw [z2_q9]
            rw [w1]
            generalize hA1 : zup A 1 (max (eg g k 1) (eg g t 1)) = A1
            have r2 := zput_o (g := g) (q := A1) (i := 2) hne (by decide)
            have r2t : zput g t A1 (6 + 12 * t + 2) = eg g t 2 := by rw [zput_at (by decide), ← hA1, zup_n (by decide), l2]
            have w2 : zup (zput g t A1) (6 + 12 * t + 2) (min (eg g k 2) (eg g t 2)) = zput g t (zup A1 2 (min (eg g k 2) (eg g t 2))) := zup_put (by decide)
            refine zs_aload_n (pc := 176) dM_mergeIt_176 rfl ?_
            refine zs_get (pc := 177) dM_mergeIt_177 fM_9 (by first | exact z2_a | exact z2_1) (by rfl) ?_
            refine zs_iload (pc := 180) dM_mergeIt_180 rfl ?_
            refine zs_iconst (pc := 182) dM_mergeIt_182 zi_2 ?_
            refine zn_iadd (pc := 183) dM_mergeIt_183 ?_
            refine zs_aload_n (pc := 184) dM_mergeIt_184 rfl ?_
            refine zs_get (pc := 185) dM_mergeIt_185 fM_9 (by first | exact z2_a | exact z2_1) (by rfl) ?_
            refine zs_iload (pc := 188) dM_mergeIt_188 rfl ?_
            refine zs_iconst (pc := 190) dM_mergeIt_190 zi_2 ?_
            refine zn_iadd (pc := 191) dM_mergeIt_191 ?_
            refine zn_iald (pc := 192) dM_mergeIt_192 (by first | exact z2_a | exact z2_1) (by omega) (by first | decide | assumption) ?_
            rw [r2]
            refine zs_aload_n (pc := 193) dM_mergeIt_193 rfl ?_
            refine zs_get (pc := 194) dM_mergeIt_194 fM_9 (by first | exact z2_a | exact z2_1) (by rfl) ?_
            refine zs_iload (pc := 197) dM_mergeIt_197 rfl ?_
            refine zs_iconst (pc := 199) dM_mergeIt_199 zi_2 ?_
            refine zn_iadd (pc := 200) dM_mergeIt_200 ?_
            refine zn_iald (pc := 201) dM_mergeIt_201 (by first | exact z2_a | exact z2_1) (by omega) (by first | decide | assumption) ?_
            rw [r2t]
            refine zn_mmin (pc := 202) dM_mergeIt_202 kM_80 (Nat.le_of_ble_eq_true rfl) (by omega) (by omega) (by omega) (by omega) ?_
            refine zn_iast (pc := 205) dM_mergeIt_205 (by first | exact z2_a | exact z2_1) (by omega) (by first | decide | assumption) ?_
            first | rw [z2_G] | rw [z2_q2] | rw [z2_q3] | rw [z2_q4] | rw [z2_q5] | rw [z2_q6] | rw [z2_q9]
            rw [w2]
            generalize hA2 : zup A1 2 (min (eg g k 2) (eg g t 2)) = A2
            have r3 := zput_o (g := g) (q := A2) (i := 3) hne (by decide)
            have r3t : zput g t A2 (6 + 12 * t + 3) = eg g t 3 := by rw [zput_at (by decide), ← hA2, zup_n (by decide), ← hA1, zup_n (by decide), l3]
            have w3 : zup (zput g t A2) (6 + 12 * t + 3) (eg g t 3 + eg g k 3) = zput g t (zmrg (eg g t) (eg g k)) := by
              rw [zup_put (by decide)]
              refine zput_ext fun i hi => ?_
              rw [← hA2, ← hA1, ← hA]
              unfold zup zmrg
              (repeat' split) <;> first | rfl | omega
            refine zs_aload_n (pc := 206) dM_mergeIt_206 rfl ?_
            refine zs_get (pc := 207) dM_mergeIt_207 fM_9 (by first | exact z2_a | exact z2_1) (by rfl) ?_
            refine zs_iload (pc := 210) dM_mergeIt_210 rfl ?_
            refine zs_iconst (pc := 212) dM_mergeIt_212 zi_3 ?_
            refine zn_iadd (pc := 213) dM_mergeIt_213 ?_
            refine zs_dup2 (pc := 214) dM_mergeIt_214 rfl rfl ?_
            refine zn_iald (pc := 215) dM_mergeIt_215 (by first | exact z2_a | exact z2_1) (by omega) (by first | decide | assumption) ?_
            rw [r3t]
            refine zs_aload_n (pc := 216) dM_mergeIt_216 rfl ?_
            refine zs_get (pc := 217) dM_mergeIt_217 fM_9 (by first | exact z2_a | exact z2_1) (by rfl) ?_
            refine zs_iload (pc := 220) dM_mergeIt_220 rfl ?_
            refine zs_iconst (pc := 222) dM_mergeIt_222 zi_3 ?_
            refine zn_iadd (pc := 223) dM_mergeIt_223 ?_
            refine zn_iald (pc := 224) dM_mergeIt_224 (by first | exact z2_a | exact z2_1) (by omega) (by first | decide | assumption) ?_
            rw [r3]
            refine zn_iadd (pc := 225) dM_mergeIt_225 ?_
            refine zn_iast (pc := 226) dM_mergeIt_226 (by first | exact z2_a | exact z2_1) (by omega) (by first | decide | assumption) ?_
            first | rw [z2_G] | rw [z2_q2] | rw [z2_q3] | rw [z2_q4] | rw [z2_q5] | rw [z2_q6] | rw [z2_q9]
            rw [w3]
            have r5 : zput g t (zmrg (eg g t) (eg g k)) (6 + 12 * t + 5) = zmrg (eg g t) (eg g k) 5 := zput_at (by decide)
            have r0 : zput g t (zmrg (eg g t) (eg g k)) 0 = g 0 := zput_lo (by decide)
            have r4 : zlv (zput g t (zmrg (eg g t) (eg g k))) k 4 = g 4 := by rw [zlv_lo (by decide), if_neg (by decide), zput_lo (by decide)]
            refine zs_aload_n (pc := 227) dM_mergeIt_227 rfl ?_
            refine zs_get (pc := 228) dM_mergeIt_228 fM_9 (by first | exact z2_a | exact z2_1) (by rfl) ?_
            refine zs_iload (pc := 231) dM_mergeIt_231 rfl ?_
            refine zs_iconst (pc := 233) dM_mergeIt_233 zi_5 ?_
            refine zn_iadd (pc := 234) dM_mergeIt_234 ?_
            refine zn_iald (pc := 235) dM_mergeIt_235 (by first | exact z2_a | exact z2_1) (by omega) (by first | decide | assumption) ?_
            rw [r5]
            refine zs_istore (pc := 236) (ls2 := [_, _, _, _, _, _, _, _]) dM_mergeIt_236 (Nat.le_of_ble_eq_true rfl) rfl ?_
            refine zs_aload_n (pc := 238) dM_mergeIt_238 rfl ?_
            refine zs_iload_n (pc := 239) dM_mergeIt_239 rfl ?_
            refine zcV0_1 (pc := 240) (d2 := d - 1) (s_M_leaves hl (by omega) (by omega) (by omega)) dM_mergeIt_240 kM_117 mdM_leaves miM_leaves mvM_leaves rfl (by exact z2_a) rfl (Nat.le_of_ble_eq_true rfl) (by omega) (by omega) (by omega) ?_
            refine zs_aload_n (pc := 243) dM_mergeIt_243 rfl ?_
            refine zs_get (pc := 244) dM_mergeIt_244 fM_9 (by first | exact z2_a | exact z2_1) (by rfl) ?_
            refine zs_iconst (pc := 247) dM_mergeIt_247 zi_4 ?_
            refine zs_dup2 (pc := 248) dM_mergeIt_248 rfl rfl ?_
            refine zn_iald (pc := 249) dM_mergeIt_249 (by first | exact z2_a | exact z2_1) (by omega) (by first | decide | assumption) ?_
            rw [r4]
            refine zs_iconst (pc := 250) dM_mergeIt_250 zi_1 ?_
            refine zn_iadd (pc := 251) dM_mergeIt_251 ?_
            refine zn_iast (pc := 252) dM_mergeIt_252 (by first | exact z2_a | exact z2_1) (by omega) (by first | decide | assumption) ?_
            first | rw [z2_G] | rw [z2_q2] | rw [z2_q3] | rw [z2_q4] | rw [z2_q5] | rw [z2_q6] | rw [z2_q9]
            refine zs_iload (pc := 253) dM_mergeIt_253 rfl ?_
            exact zs_iret (pc := 255) dM_mergeIt_255 rfl rfl (by omega) (by omega) (⟨rfl, rfl, rfl⟩)
          have hfit : A 5 ≤ 6 := by omega
          rw [← hA] at K hfit
          have h9 := lp_M_mergeIt (Γ := Γ) (l := l) (x := x) (y := y) hl (d := d) hd hI hB f1 k1 hne hfit K (eg g k 5) 0 rfl
          have ez : zput g t (zabs (eg g t) (eg g k) 0) = g := zput_id
          rw [ez] at h9
          refine zs_aload_n (pc := 0) dM_mergeIt_0 rfl ?_
          refine zs_iload_n (pc := 1) dM_mergeIt_1 rfl ?_
          refine zcV1_1 (pc := 2) (d2 := d - 1) (s_M_find_y hl (by omega) i0 f1 f2 f3) dM_mergeIt_2 kM_102 mdM_find miM_find mvM_find rfl (by exact z2_a) rfl (Nat.le_of_ble_eq_true rfl) (by omega) (by omega) (by omega) ?_
          refine zs_istore_n (pc := 5) (ls2 := [_, _, _, _, _, _, _, _]) dM_mergeIt_5 (Nat.le_of_ble_eq_true rfl) rfl ?_
          refine zs_aload_n (pc := 6) dM_mergeIt_6 rfl ?_
          refine zs_iload_n (pc := 7) dM_mergeIt_7 rfl ?_
          refine zcV1_1 (pc := 8) (d2 := d - 1) (s_M_find_y hl (by omega) i0 k1 k2 k3) dM_mergeIt_8 kM_102 mdM_find miM_find mvM_find rfl (by exact z2_a) rfl (Nat.le_of_ble_eq_true rfl) (by omega) (by omega) (by omega) ?_
          refine zs_istore (pc := 11) (ls2 := [_, _, _, _, _, _, _, _]) dM_mergeIt_11 (Nat.le_of_ble_eq_true rfl) rfl ?_
          refine zs_iload_n (pc := 13) dM_mergeIt_13 rfl ?_
          refine zs_iconst (pc := 14) dM_mergeIt_14 zi_m1 ?_
          refine zs_icmp_eq (pc := 15) 24 dM_mergeIt_15 rfl (fun h9 => absurd h9 (hkn _ f1)) (fun _ => ?_)
          refine zs_iload (pc := 18) dM_mergeIt_18 rfl ?_
          refine zs_iconst (pc := 20) dM_mergeIt_20 zi_m1 ?_
          refine zs_icmp_ne (pc := 21) 30 dM_mergeIt_21 rfl (fun _ => ?_) (fun h9 => absurd h9 (hkn _ k1))
          refine zs_iload_n (pc := 30) dM_mergeIt_30 rfl ?_
          refine zs_iload (pc := 31) dM_mergeIt_31 rfl ?_
          refine zn_icmp_ne (pc := 33) 42 dM_mergeIt_33 rfl (by omega) (by omega) (fun _ => ?_) (fun h9 => absurd h9 (hne))
          refine zs_iload_n (pc := 42) dM_mergeIt_42 rfl ?_
          refine zcS1_1 (pc := 43) (d2 := d - 1) (s_M_entryAt hl) dM_mergeIt_43 kM_51 mdM_entryAt msM_entryAt rfl (Nat.le_of_ble_eq_true rfl) (by omega) (by omega) (by omega) ?_
          refine zs_istore (pc := 46) (ls2 := [_, _, _, _, _, _, _, _]) dM_mergeIt_46 (Nat.le_of_ble_eq_true rfl) rfl ?_
          refine zs_iload (pc := 48) dM_mergeIt_48 rfl ?_
          refine zcS1_1 (pc := 50) (d2 := d - 1) (s_M_entryAt hl) dM_mergeIt_50 kM_51 mdM_entryAt msM_entryAt rfl (Nat.le_of_ble_eq_true rfl) (by omega) (by omega) (by omega) ?_
          refine zs_istore (pc := 53) (ls2 := [_, _, _, _, _, _, _, _]) dM_mergeIt_53 (Nat.le_of_ble_eq_true rfl) rfl ?_
          refine zs_aload_n (pc := 55) dM_mergeIt_55 rfl ?_
          refine zs_get (pc := 56) dM_mergeIt_56 fM_9 (by first | exact z2_a | exact z2_1) (by rfl) ?_
          refine zs_iload (pc := 59) dM_mergeIt_59 rfl ?_
          refine zs_iconst (pc := 61) dM_mergeIt_61 zi_5 ?_
          refine zn_iadd (pc := 62) dM_mergeIt_62 ?_
          refine zn_iald (pc := 63) dM_mergeIt_63 (by first | exact z2_a | exact z2_1) (by omega) (by first | decide | assumption) ?_
          refine zs_aload_n (pc := 64) dM_mergeIt_64 rfl ?_
          refine zs_get (pc := 65) dM_mergeIt_65 fM_9 (by first | exact z2_a | exact z2_1) (by rfl) ?_
          refine zs_iload (pc := 68) dM_mergeIt_68 rfl ?_
          refine zs_iconst (pc := 70) dM_mergeIt_70 zi_5 ?_
          refine zn_iadd (pc := 71) dM_mergeIt_71 ?_
          refine zn_iald (pc := 72) dM_mergeIt_72 (by first | exact z2_a | exact z2_1) (by omega) (by first | decide | assumption) ?_
          refine zn_iadd (pc := 73) dM_mergeIt_73 ?_
          refine zs_aload_n (pc := 74) dM_mergeIt_74 rfl ?_
          refine zs_iload_n (pc := 75) dM_mergeIt_75 rfl ?_
          refine zs_iload (pc := 76) dM_mergeIt_76 rfl ?_
          refine zcV1_2 (pc := 78) (d2 := d - 1) (s_M_common hl (by omega) hI f1 k1) dM_mergeIt_78 kM_127 mdM_common miM_common mvM_common rfl (by exact z2_a) rfl (Nat.le_of_ble_eq_true rfl) (by omega) (by omega) (by omega) ?_
          refine zn_isub (pc := 81) dM_mergeIt_81 (by omega) ?_
          refine zs_bipush (pc := 82) dM_mergeIt_82 (zi_b 6 (by decide)) ?_
          refine zn_icmp_le (pc := 84) 93 dM_mergeIt_84 rfl (by omega) (by omega) (fun _ => ?_) (fun h9 => absurd h9 (by omega))
          refine zs_iconst (pc := 93) dM_mergeIt_93 zi_0 ?_
          refine zs_istore (pc := 94) (ls2 := [_, _, _, _, _, _, _, _]) dM_mergeIt_94 (Nat.le_of_ble_eq_true rfl) rfl ?_
          exact h9

