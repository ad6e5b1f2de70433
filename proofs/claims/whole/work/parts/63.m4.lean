/-! the model's changes: a code leaves, entries are merged, days pass -/
def zdlm (q : Nat → Nat) (t i : Nat) : Nat → Nat := fun j => if 6 + t ≤ j ∧ j < 6 + i then q (j + 1) else q j
theorem lpa_M_uncodeIt {Γ : zG} {l : Launch} (hl : l.stackTraces = false) {d : Nat} (hd : 4 ≤ d) {h : zH} {n a : Nat} {g : Nat → Nat} {s3 s5 s6 s7 s8 s10 s12 s16 s17 s18 s19 s20 : Int32} {k w t : Nat} {x : Int32} {FN : List Frame → Array Value → State → State → Prop} (hk : k < 20) (h5 : eg g k 5 ≤ 6) (hc : ∀ i, i < eg g k 5 → eg g k (6 + i) < 1000) (hw : w < 1000) (ht : t < eg g k 5) (ht1 : eg g k (6 + t) = w) (ht2 : ∀ i, i < t → eg g k (6 + i) ≠ w) (K : Z Γ l mM_uncodeIt d 0 0 FN 77 [some (.ref a), some (.int x), some (.int (nI w)), some (.int (nI k)), some (.int (nI (6 + 12 * k))), some (.int (nI t)), none] [] (z2 h a (zAr 0 246 (g)) (zMo a s3 s5 s6 s7 s8 s10 s12 s16 s17 s18 s19 s20)) n 0 0) : ∀ i j, i + j = t → Z Γ l mM_uncodeIt d 0 0 FN 60 [some (.ref a), some (.int x), some (.int (nI w)), some (.int (nI k)), some (.int (nI (6 + 12 * k))), some (.int (nI j)), none] [] (z2 h a (zAr 0 246 (g)) (zMo a s3 s5 s6 s7 s8 s10 s12 s16 s17 s18 s19 s20)) n 0 0 := by
  intro i
  induction i with
  | zero =>
    intro j hj
    obtain rfl : j = t := by omega
    have hcj := hc j ht
    refine zs_aload_n (pc := 60) dM_uncodeIt_60 rfl ?_
    refine zs_iload_n (pc := 61) dM_uncodeIt_61 rfl ?_
    refine zs_iload (pc := 62) dM_uncodeIt_62 rfl ?_
    refine zcV1_2 (pc := 64) (d2 := d - 1) (s_M_codeOf hl (by omega) hk (by omega)) dM_uncodeIt_64 kM_62 mdM_codeOf miM_codeOf mvM_codeOf rfl (by exact z2_a) rfl (Nat.le_of_ble_eq_true rfl) (by omega) (by omega) (by omega) ?_
    refine zs_iload_n (pc := 67) dM_uncodeIt_67 rfl ?_
    refine zn_icmp_eq (pc := 68) 77 dM_uncodeIt_68 rfl (by omega) (by omega) (fun _ => ?_) (fun h9 => absurd h9 (fun q => q ht1))
    exact K
  | succ i ih =>
    intro j hj
    have hcj := hc j (by omega)
    refine zs_aload_n (pc := 60) dM_uncodeIt_60 rfl ?_
    refine zs_iload_n (pc := 61) dM_uncodeIt_61 rfl ?_
    refine zs_iload (pc := 62) dM_uncodeIt_62 rfl ?_
    refine zcV1_2 (pc := 64) (d2 := d - 1) (s_M_codeOf hl (by omega) hk (by omega)) dM_uncodeIt_64 kM_62 mdM_codeOf miM_codeOf mvM_codeOf rfl (by exact z2_a) rfl (Nat.le_of_ble_eq_true rfl) (by omega) (by omega) (by omega) ?_
    refine zs_iload_n (pc := 67) dM_uncodeIt_67 rfl ?_
    refine zn_icmp_eq (pc := 68) 77 dM_uncodeIt_68 rfl (by omega) (by omega) (fun h9 => absurd h9 (ht2 j (by omega))) (fun _ => ?_)
    refine zn_iinc (pc := 71) (ls2 := [_, _, _, _, _, _, _]) dM_uncodeIt_71 rfl (Nat.le_of_ble_eq_true rfl) rfl ?_
    refine zs_goto (pc := 74) 60 dM_uncodeIt_74 rfl ?_
    exact ih (j + 1) (by omega)
theorem lpb_M_uncodeIt {Γ : zG} {l : Launch} (hl : l.stackTraces = false) {d : Nat} {h : zH} {n a : Nat} {g : Nat → Nat} {s3 s5 s6 s7 s8 s10 s12 s16 s17 s18 s19 s20 : Int32} {k t : Nat} {x y x5 : Int32} {q : Nat → Nat} {FN : List Frame → Array Value → State → State → Prop} (hk : k < 20) (K : Z Γ l mM_uncodeIt d 0 0 FN 121 [some (.ref a), some (.int x), some (.int y), some (.int (nI k)), some (.int (nI (6 + 12 * k))), some (.int x5), some (.int (nI 5))] [] (z2 h a (zAr 0 246 (zput g k (zdlm q t 5))) (zMo a s3 s5 s6 s7 s8 s10 s12 s16 s17 s18 s19 s20)) n 0 0) : ∀ f i, f + i = 5 → t ≤ i → Z Γ l mM_uncodeIt d 0 0 FN 81 [some (.ref a), some (.int x), some (.int y), some (.int (nI k)), some (.int (nI (6 + 12 * k))), some (.int x5), some (.int (nI i))] [] (z2 h a (zAr 0 246 (zput g k (zdlm q t i))) (zMo a s3 s5 s6 s7 s8 s10 s12 s16 s17 s18 s19 s20)) n 0 0 := by
  intro f
  induction f with
  | zero =>
    intro i hi hti
    obtain rfl : i = 5 := by omega
    refine zs_iload (pc := 81) dM_uncodeIt_81 rfl ?_
    refine zs_iconst (pc := 83) dM_uncodeIt_83 zi_5 ?_
    refine zn_icmp_ge (pc := 84) 121 dM_uncodeIt_84 rfl (by omega) (by omega) (fun _ => ?_) (fun h9 => absurd h9 (by omega))
    exact K
  | succ f ih =>
    intro i hi hti
    have hz := ih (i + 1) (by omega) (by omega)
    have er : zput g k (zdlm q t i) (6 + 12 * k + 6 + i + 1) = q (6 + i + 1) := by
      rw [show 6 + 12 * k + 6 + i + 1 = 6 + 12 * k + (6 + i + 1) by omega, zput_at (by omega)]
      unfold zdlm
      rw [if_neg (by omega)]
    have ew : zup (zput g k (zdlm q t i)) (6 + 12 * k + 6 + i) (q (6 + i + 1)) = zput g k (zdlm q t (i + 1)) := by
      rw [show 6 + 12 * k + 6 + i = 6 + 12 * k + (6 + i) by omega, zup_put (by omega)]
      refine zput_ext fun j hj => ?_
      unfold zup zdlm
      (repeat' split) <;> first | rfl | (exfalso; omega) | (congr 1; omega) | omega
    refine zs_iload (pc := 81) dM_uncodeIt_81 rfl ?_
    refine zs_iconst (pc := 83) dM_uncodeIt_83 zi_5 ?_
    refine zn_icmp_ge (pc := 84) 121 dM_uncodeIt_84 rfl (by omega) (by omega) (fun h9 => absurd h9 (by omega)) (fun _ => ?_)
    refine zs_aload_n (pc := 87) dM_uncodeIt_87 rfl ?_
    refine zs_get (pc := 88) dM_uncodeIt_88 fM_9 (by first | exact z2_a | exact z2_1) (by rfl) ?_
    refine zs_iload (pc := 91) dM_uncodeIt_91 rfl ?_
    refine zs_bipush (pc := 93) dM_uncodeIt_93 (zi_b 6 (by decide)) ?_
    refine zn_iadd (pc := 95) dM_uncodeIt_95 ?_
    refine zs_iload (pc := 96) dM_uncodeIt_96 rfl ?_
    refine zn_iadd (pc := 98) dM_uncodeIt_98 ?_
    refine zs_aload_n (pc := 99) dM_uncodeIt_99 rfl ?_
    refine zs_get (pc := 100) dM_uncodeIt_100 fM_9 (by first | exact z2_a | exact z2_1) (by rfl) ?_
    refine zs_iload (pc := 103) dM_uncodeIt_103 rfl ?_
    refine zs_bipush (pc := 105) dM_uncodeIt_105 (zi_b 6 (by decide)) ?_
    refine zn_iadd (pc := 107) dM_uncodeIt_107 ?_
    refine zs_iload (pc := 108) dM_uncodeIt_108 rfl ?_
    refine zn_iadd (pc := 110) dM_uncodeIt_110 ?_
    refine zs_iconst (pc := 111) dM_uncodeIt_111 zi_1 ?_
    refine zn_iadd (pc := 112) dM_uncodeIt_112 ?_
    refine zn_iald (pc := 113) dM_uncodeIt_113 (by first | exact z2_a | exact z2_1) (by omega) (by first | decide | assumption) ?_
    rw [er]
    refine zn_iast (pc := 114) dM_uncodeIt_114 (by first | exact z2_a | exact z2_1) (by omega) (by first | decide | assumption) ?_
    first | rw [z2_G] | rw [z2_q2] | rw [z2_q3] | rw [z2_q4] | rw [z2_q5] | rw [z2_q6] | rw [z2_q9]
    rw [ew]
    refine zn_iinc (pc := 115) (ls2 := [_, _, _, _, _, _, _]) dM_uncodeIt_115 rfl (Nat.le_of_ble_eq_true rfl) rfl ?_
    refine zs_goto (pc := 118) 81 dM_uncodeIt_118 rfl ?_
    exact hz
theorem zfst_le {p : Nat → Bool} : ∀ n, zfst p n ≤ n := by
  intro n
  induction n with
  | zero => exact Nat.le_refl _
  | succ n ih => unfold zfst; (repeat' split) <;> omega
theorem s_M_uncodeIt {Γ : zG} {l : Launch} (hl : l.stackTraces = false) {d : Nat} (hd : 4 ≤ d) {h : zH} {n a : Nat} {g : Nat → Nat} {s3 s5 s6 s7 s8 s10 s12 s16 s17 s18 s19 s20 : Int32} {B : Nat} (hI : IG B g) (hB : B < 2 ^ 20) (x y : Int32) : zC Γ l d mM_uncodeIt [.ref a, .int x, .int y] (z2 h a (zAr 0 246 (g)) (zMo a s3 s5 s6 s7 s8 s10 s12 s16 s17 s18 s19 s20)) n 0 0 (zR (some (.int (zma (zopUncode g x y)))) (z2 h a (zAr 0 246 ((zopUncode g x y).2.2)) (zMo a s3 s5 s6 s7 (zmth s8 (zopUncode g x y)) s10 s12 s16 s17 s18 s19 s20)) n) := by
  have i0 := hI.1
  unfold zopUncode
  refine zC_of (ls := [some (.ref a), some (.int x), some (.int y), none, none, none, none]) hl (by decide +kernel) rfl (Nat.le_of_ble_eq_true rfl) rfl ?_
  cases hH : zHas g x with
  | false =>
    rw [if_neg (by decide)]
    refine zs_aload_n (pc := 0) dM_uncodeIt_0 rfl ?_
    refine zs_iload_n (pc := 1) dM_uncodeIt_1 rfl ?_
    refine zcV1_1 (pc := 2) (d2 := d - 1) (s_M_find_n hl (by omega) i0 hH) dM_uncodeIt_2 kM_102 mdM_find miM_find mvM_find rfl (by exact z2_a) rfl (Nat.le_of_ble_eq_true rfl) (by omega) (by omega) (by omega) ?_
    refine zs_istore_n (pc := 5) (ls2 := [_, _, _, _, _, _, _]) dM_uncodeIt_5 (Nat.le_of_ble_eq_true rfl) rfl ?_
    refine zs_iload_n (pc := 6) dM_uncodeIt_6 rfl ?_
    refine zs_iconst (pc := 7) dM_uncodeIt_7 zi_m1 ?_
    refine zs_icmp_ne (pc := 8) 17 dM_uncodeIt_8 rfl (fun h9 => absurd h9 (fun q => q rfl)) (fun _ => ?_)
    refine zs_aload_n (pc := 11) dM_uncodeIt_11 rfl ?_
    refine zs_iconst (pc := 12) dM_uncodeIt_12 zi_1 ?_
    refine zcV1_1 (pc := 13) (d2 := d - 1) (s_M_throwing hl) dM_uncodeIt_13 kM_90 mdM_throwing miM_throwing mvM_throwing rfl (by exact z2_a) rfl (Nat.le_of_ble_eq_true rfl) (by omega) (by omega) (by omega) ?_
    exact zs_iret (pc := 16) dM_uncodeIt_16 rfl rfl (by omega) (by omega) (⟨rfl, rfl, rfl⟩)
  | true =>
    rw [if_pos rfl]
    obtain ⟨f1, f2, f3⟩ := zHas_y hH
    generalize zAt g x = k at f1 f2 f3 ⊢
    have h5 := hI.s6 k f1
    have hc := hI.c f1
    have hkn : ¬ nI k = -1 := fun q => by
      have h9 := nI_pos (n := k) (by omega)
      rw [q] at h9
      exact h9 (by decide)
    cases hv : zV y 0 999 with
    | false =>
      rw [if_neg (by decide)]
      refine zs_aload_n (pc := 0) dM_uncodeIt_0 rfl ?_
      refine zs_iload_n (pc := 1) dM_uncodeIt_1 rfl ?_
      refine zcV1_1 (pc := 2) (d2 := d - 1) (s_M_find_y hl (by omega) i0 f1 f2 f3) dM_uncodeIt_2 kM_102 mdM_find miM_find mvM_find rfl (by exact z2_a) rfl (Nat.le_of_ble_eq_true rfl) (by omega) (by omega) (by omega) ?_
      refine zs_istore_n (pc := 5) (ls2 := [_, _, _, _, _, _, _]) dM_uncodeIt_5 (Nat.le_of_ble_eq_true rfl) rfl ?_
      refine zs_iload_n (pc := 6) dM_uncodeIt_6 rfl ?_
      refine zs_iconst (pc := 7) dM_uncodeIt_7 zi_m1 ?_
      refine zs_icmp_ne (pc := 8) 17 dM_uncodeIt_8 rfl (fun _ => ?_) (fun h9 => absurd h9 (hkn))
      refine zs_iload_n (pc := 17) dM_uncodeIt_17 rfl ?_
      refine zs_i2l (pc := 18) dM_uncodeIt_18 ?_
      refine zs_lconst (pc := 19) (v := 0) dM_uncodeIt_19 (by decide) ?_
      refine zs_ldc2 (pc := 20) (v := 999) dM_uncodeIt_20 (zt6 (i := 149) rfl) ?_
      refine zcS1_3 (pc := 23) (d2 := d - 1) (s_M_inV_n hl (by decide) (by decide) hv) dM_uncodeIt_23 kM_55 mdM_in msM_in rfl (Nat.le_of_ble_eq_true rfl) (by omega) (by omega) (by omega) ?_
      refine zs_if_ne (pc := 26) 35 dM_uncodeIt_26 rfl (fun h9 => absurd h9 (by decide)) (fun _ => ?_)
      refine zs_aload_n (pc := 29) dM_uncodeIt_29 rfl ?_
      refine zs_iconst (pc := 30) dM_uncodeIt_30 zi_2 ?_
      refine zcV1_1 (pc := 31) (d2 := d - 1) (s_M_throwing hl) dM_uncodeIt_31 kM_90 mdM_throwing miM_throwing mvM_throwing rfl (by exact z2_a) rfl (Nat.le_of_ble_eq_true rfl) (by omega) (by omega) (by omega) ?_
      exact zs_iret (pc := 34) dM_uncodeIt_34 rfl rfl (by omega) (by omega) (⟨rfl, rfl, rfl⟩)
    | true =>
      rw [if_pos rfl]
      have hv9 := hv
      obtain ⟨v1, v2, v3⟩ := zV_y hv
      generalize y.toInt.toNat = w at v1 v2 v3 ⊢
      subst v3
      have hmz : 0 < zmany (eg g k) 3 w ↔ zin (eg g k) w = true := by rw [← zin_dec, decide_eq_true_iff]
      have hm6 : zmany (eg g k) 3 w ≤ eg g k 5 := zcnt_le _ _
      by_cases e : zin (eg g k) w = true
      · rw [if_pos e]
        have hm := hmz.mpr e
        obtain ⟨t1, t2, t3⟩ := zfst_y _ e
        have tt : zidx (eg g k) w = zfst (fun i => eg g k (6 + i) == w) (eg g k 5) := rfl
        rw [← tt] at t1 t2 t3
        generalize zidx (eg g k) w = t at t1 t2 t3 ⊢
        have t2 : eg g k (6 + t) = w := by simpa using t2
        have t3 : ∀ i, i < t → eg g k (6 + i) ≠ w := fun i hi => by simpa using t3 i hi
        generalize hq : eg g k = q at *
        have e1 : zup (zput g k (zdlm q t 5)) (6 + 12 * k + 6 + 6 - 1) 0 = zput g k (zup (zdlm q t 5) 11 0) := by
          rw [show 6 + 12 * k + 6 + 6 - 1 = 6 + 12 * k + 11 by omega]
          exact zup_put (by omega)
        have e2 : zput g k (zup (zdlm q t 5) 11 0) (6 + 12 * k + 5) = q 5 := by
          rw [zput_at (by omega)]
          unfold zup zdlm
          rw [if_neg (by omega), if_neg (by omega)]
        have e3 : zup (zput g k (zup (zdlm q t 5) 11 0)) (6 + 12 * k + 5) (q 5 - 1) = zput g k (zdelm q t) := by
          rw [zup_put (by omega)]
          refine zput_ext fun i hi => ?_
          unfold zup zdlm zdelm
          (repeat' split) <;> first | rfl | (exfalso; omega) | (congr 1; omega) | omega
        have e4 : zput g k (zdelm q t) (6 + 12 * k + 5) = q 5 - 1 := by
          rw [zput_at (by omega)]
          rfl
        have K2 : Z Γ l mM_uncodeIt d 0 0 (zFin Γ (zR (some (.int (zma (((0, q 5 - 1, zput g k (zdelm q t)) : zOp))))) (z2 h a (zAr 0 246 ((((0, q 5 - 1, zput g k (zdelm q t)) : zOp)).2.2)) (zMo a s3 s5 s6 s7 (zmth s8 (((0, q 5 - 1, zput g k (zdelm q t)) : zOp))) s10 s12 s16 s17 s18 s19 s20)) n) 0 0) 121 [some (.ref a), some (.int x), some (.int (nI w)), some (.int (nI k)), some (.int (nI (6 + 12 * k))), some (.int (nI t)), some (.int (nI 5))] [] (z2 h a (zAr 0 246 (zput g k (zdlm q t 5))) (zMo a s3 s5 s6 s7 s8 s10 s12 s16 s17 s18 s19 s20)) n 0 0 := by
          refine zs_aload_n (pc := 121) dM_uncodeIt_121 rfl ?_
          refine zs_get (pc := 122) dM_uncodeIt_122 fM_9 (by first | exact z2_a | exact z2_1) (by rfl) ?_
          refine zs_iload (pc := 125) dM_uncodeIt_125 rfl ?_
          refine zs_bipush (pc := 127) dM_uncodeIt_127 (zi_b 6 (by decide)) ?_
          refine zn_iadd (pc := 129) dM_uncodeIt_129 ?_
          refine zs_bipush (pc := 130) dM_uncodeIt_130 (zi_b 6 (by decide)) ?_
          refine zn_iadd (pc := 132) dM_uncodeIt_132 ?_
          refine zs_iconst (pc := 133) dM_uncodeIt_133 zi_1 ?_
          refine zn_isub (pc := 134) dM_uncodeIt_134 (by omega) ?_
          refine zs_iconst (pc := 135) dM_uncodeIt_135 zi_0 ?_
          refine zn_iast (pc := 136) dM_uncodeIt_136 (by first | exact z2_a | exact z2_1) (by omega) (by first | decide | assumption) ?_
          first | rw [z2_G] | rw [z2_q2] | rw [z2_q3] | rw [z2_q4] | rw [z2_q5] | rw [z2_q6] | rw [z2_q9]
          rw [e1]
          refine zs_aload_n (pc := 137) dM_uncodeIt_137 rfl ?_
          refine zs_get (pc := 138) dM_uncodeIt_138 fM_9 (by first | exact z2_a | exact z2_1) (by rfl) ?_
          refine zs_iload (pc := 141) dM_uncodeIt_141 rfl ?_
          refine zs_iconst (pc := 143) dM_uncodeIt_143 zi_5 ?_
          refine zn_iadd (pc := 144) dM_uncodeIt_144 ?_
          refine zs_dup2 (pc := 145) dM_uncodeIt_145 rfl rfl ?_
          refine zn_iald (pc := 146) dM_uncodeIt_146 (by first | exact z2_a | exact z2_1) (by omega) (by first | decide | assumption) ?_
          rw [e2]
          refine zs_iconst (pc := 147) dM_uncodeIt_147 zi_1 ?_
          refine zn_isub (pc := 148) dM_uncodeIt_148 (by omega) ?_
          refine zn_iast (pc := 149) dM_uncodeIt_149 (by first | exact z2_a | exact z2_1) (by omega) (by first | decide | assumption) ?_
          first | rw [z2_G] | rw [z2_q2] | rw [z2_q3] | rw [z2_q4] | rw [z2_q5] | rw [z2_q6] | rw [z2_q9]
          rw [e3]
          refine zs_aload_n (pc := 150) dM_uncodeIt_150 rfl ?_
          refine zs_get (pc := 151) dM_uncodeIt_151 fM_9 (by first | exact z2_a | exact z2_1) (by rfl) ?_
          refine zs_iload (pc := 154) dM_uncodeIt_154 rfl ?_
          refine zs_iconst (pc := 156) dM_uncodeIt_156 zi_5 ?_
          refine zn_iadd (pc := 157) dM_uncodeIt_157 ?_
          refine zn_iald (pc := 158) dM_uncodeIt_158 (by first | exact z2_a | exact z2_1) (by omega) (by first | decide | assumption) ?_
          rw [e4]
          exact zs_iret (pc := 159) dM_uncodeIt_159 rfl rfl (by omega) (by omega) (⟨rfl, rfl, rfl⟩)
        have h8 := lpb_M_uncodeIt (Γ := Γ) (l := l) (t := t) (q := q) hl (d := d) (by omega) K2 (5 - t) t (by omega) (Nat.le_refl _)
        have ez : zput g k (zdlm q t t) = g := by
          have e9 : zdlm q t t = eg g k := by
            rw [hq]
            funext j
            unfold zdlm
            rw [if_neg (by omega)]
          rw [e9, zput_id]
        rw [ez] at h8
        have K1 : Z Γ l mM_uncodeIt d 0 0 (zFin Γ (zR (some (.int (zma (((0, q 5 - 1, zput g k (zdelm q t)) : zOp))))) (z2 h a (zAr 0 246 ((((0, q 5 - 1, zput g k (zdelm q t)) : zOp)).2.2)) (zMo a s3 s5 s6 s7 (zmth s8 (((0, q 5 - 1, zput g k (zdelm q t)) : zOp))) s10 s12 s16 s17 s18 s19 s20)) n) 0 0) 77 [some (.ref a), some (.int x), some (.int (nI w)), some (.int (nI k)), some (.int (nI (6 + 12 * k))), some (.int (nI t)), none] [] (z2 h a (zAr 0 246 (g)) (zMo a s3 s5 s6 s7 s8 s10 s12 s16 s17 s18 s19 s20)) n 0 0 := by
          refine zs_iload (pc := 77) dM_uncodeIt_77 rfl ?_
          refine zs_istore (pc := 79) (ls2 := [_, _, _, _, _, _, _]) dM_uncodeIt_79 (Nat.le_of_ble_eq_true rfl) rfl ?_
          exact h8
        subst hq
        have h9 := lpa_M_uncodeIt (Γ := Γ) (l := l) (t := t) hl (d := d) hd (by omega) h5 hc (by omega) t1 t2 t3 K1 t 0 rfl
        refine zs_aload_n (pc := 0) dM_uncodeIt_0 rfl ?_
        refine zs_iload_n (pc := 1) dM_uncodeIt_1 rfl ?_
        refine zcV1_1 (pc := 2) (d2 := d - 1) (s_M_find_y hl (by omega) i0 f1 f2 f3) dM_uncodeIt_2 kM_102 mdM_find miM_find mvM_find rfl (by exact z2_a) rfl (Nat.le_of_ble_eq_true rfl) (by omega) (by omega) (by omega) ?_
        refine zs_istore_n (pc := 5) (ls2 := [_, _, _, _, _, _, _]) dM_uncodeIt_5 (Nat.le_of_ble_eq_true rfl) rfl ?_
        refine zs_iload_n (pc := 6) dM_uncodeIt_6 rfl ?_
        refine zs_iconst (pc := 7) dM_uncodeIt_7 zi_m1 ?_
        refine zs_icmp_ne (pc := 8) 17 dM_uncodeIt_8 rfl (fun _ => ?_) (fun h9 => absurd h9 (hkn))
        refine zs_iload_n (pc := 17) dM_uncodeIt_17 rfl ?_
        refine zs_i2l (pc := 18) dM_uncodeIt_18 ?_
        refine zs_lconst (pc := 19) (v := 0) dM_uncodeIt_19 (by decide) ?_
        refine zs_ldc2 (pc := 20) (v := 999) dM_uncodeIt_20 (zt6 (i := 149) rfl) ?_
        refine zcS1_3 (pc := 23) (d2 := d - 1) (s_M_inV_y hl (by decide) (by decide) hv9) dM_uncodeIt_23 kM_55 mdM_in msM_in rfl (Nat.le_of_ble_eq_true rfl) (by omega) (by omega) (by omega) ?_
        refine zs_if_ne (pc := 26) 35 dM_uncodeIt_26 rfl (fun _ => ?_) (fun h9 => absurd h9 (by decide))
        refine zs_aload_n (pc := 35) dM_uncodeIt_35 rfl ?_
        refine zs_iload_n (pc := 36) dM_uncodeIt_36 rfl ?_
        refine zs_iconst (pc := 37) dM_uncodeIt_37 zi_3 ?_
        refine zs_iload_n (pc := 38) dM_uncodeIt_38 rfl ?_
        refine zcV1_3 (pc := 39) (d2 := d - 1) (s_M_many hl (by omega) (by omega) h5 hc (by decide) (by omega)) dM_uncodeIt_39 kM_70 mdM_many miM_many mvM_many rfl (by exact z2_a) rfl (Nat.le_of_ble_eq_true rfl) (by omega) (by omega) (by omega) ?_
        refine zn_if_ne (pc := 42) 51 dM_uncodeIt_42 rfl (by omega) (fun _ => ?_) (fun h9 => absurd h9 (by omega))
        refine zs_iload_n (pc := 51) dM_uncodeIt_51 rfl ?_
        refine zcS1_1 (pc := 52) (d2 := d - 1) (s_M_entryAt hl) dM_uncodeIt_52 kM_51 mdM_entryAt msM_entryAt rfl (Nat.le_of_ble_eq_true rfl) (by omega) (by omega) (by omega) ?_
        refine zs_istore (pc := 55) (ls2 := [_, _, _, _, _, _, _]) dM_uncodeIt_55 (Nat.le_of_ble_eq_true rfl) rfl ?_
        refine zs_iconst (pc := 57) dM_uncodeIt_57 zi_0 ?_
        refine zs_istore (pc := 58) (ls2 := [_, _, _, _, _, _, _]) dM_uncodeIt_58 (Nat.le_of_ble_eq_true rfl) rfl ?_
        exact h9
      · rw [if_neg e]
        have hm : ¬ 0 < zmany (eg g k) 3 w := fun q => e (hmz.mp q)
        refine zs_aload_n (pc := 0) dM_uncodeIt_0 rfl ?_
        refine zs_iload_n (pc := 1) dM_uncodeIt_1 rfl ?_
        refine zcV1_1 (pc := 2) (d2 := d - 1) (s_M_find_y hl (by omega) i0 f1 f2 f3) dM_uncodeIt_2 kM_102 mdM_find miM_find mvM_find rfl (by exact z2_a) rfl (Nat.le_of_ble_eq_true rfl) (by omega) (by omega) (by omega) ?_
        refine zs_istore_n (pc := 5) (ls2 := [_, _, _, _, _, _, _]) dM_uncodeIt_5 (Nat.le_of_ble_eq_true rfl) rfl ?_
        refine zs_iload_n (pc := 6) dM_uncodeIt_6 rfl ?_
        refine zs_iconst (pc := 7) dM_uncodeIt_7 zi_m1 ?_
        refine zs_icmp_ne (pc := 8) 17 dM_uncodeIt_8 rfl (fun _ => ?_) (fun h9 => absurd h9 (hkn))
        refine zs_iload_n (pc := 17) dM_uncodeIt_17 rfl ?_
        refine zs_i2l (pc := 18) dM_uncodeIt_18 ?_
        refine zs_lconst (pc := 19) (v := 0) dM_uncodeIt_19 (by decide) ?_
        refine zs_ldc2 (pc := 20) (v := 999) dM_uncodeIt_20 (zt6 (i := 149) rfl) ?_
        refine zcS1_3 (pc := 23) (d2 := d - 1) (s_M_inV_y hl (by decide) (by decide) hv9) dM_uncodeIt_23 kM_55 mdM_in msM_in rfl (Nat.le_of_ble_eq_true rfl) (by omega) (by omega) (by omega) ?_
        refine zs_if_ne (pc := 26) 35 dM_uncodeIt_26 rfl (fun _ => ?_) (fun h9 => absurd h9 (by decide))
        refine zs_aload_n (pc := 35) dM_uncodeIt_35 rfl ?_
        refine zs_iload_n (pc := 36) dM_uncodeIt_36 rfl ?_
        refine zs_iconst (pc := 37) dM_uncodeIt_37 zi_3 ?_
        refine zs_iload_n (pc := 38) dM_uncodeIt_38 rfl ?_
        refine zcV1_3 (pc := 39) (d2 := d - 1) (s_M_many hl (by omega) (by omega) h5 hc (by decide) (by omega)) dM_uncodeIt_39 kM_70 mdM_many miM_many mvM_many rfl (by exact z2_a) rfl (Nat.le_of_ble_eq_true rfl) (by omega) (by omega) (by omega) ?_
        refine zn_if_ne (pc := 42) 51 dM_uncodeIt_42 rfl (by omega) (fun h9 => absurd h9 (by omega)) (fun _ => ?_)
        refine zs_aload_n (pc := 45) dM_uncodeIt_45 rfl ?_
        refine zs_iconst (pc := 46) dM_uncodeIt_46 zi_3 ?_
        refine zcV1_1 (pc := 47) (d2 := d - 1) (s_M_throwing hl) dM_uncodeIt_47 kM_90 mdM_throwing miM_throwing mvM_throwing rfl (by exact z2_a) rfl (Nat.le_of_ble_eq_true rfl) (by omega) (by omega) (by omega) ?_
        exact zs_iret (pc := 50) dM_uncodeIt_50 rfl rfl (by omega) (by omega) (⟨rfl, rfl, rfl⟩)
theorem zcnt_1 {p : Nat → Bool} : ∀ n, (∀ i j, i < n → j < n → p i = true → p j = true → i = j) → zcnt p n = zb (zany p n) := by
  intro n
  induction n with
  | zero => intro _; rfl
  | succ n ih =>
    intro h
    have h1 := ih (fun i j hi hj => h i j (by omega) (by omega))
    cases hp : p n with
    | true =>
      have hz : zany p n = false := zany_no.mpr fun i hi => by
        cases q : p i with
        | false => rfl
        | true => exact absurd (h i n (by omega) (by omega) q hp) (by omega)
      rw [zcnt_t hp, h1, hz]
      show 0 + 1 = zb (zany p n || p n)
      rw [hp, Bool.or_true]
      rfl
    | false =>
      rw [zcnt_f hp, h1]
      show _ = zb (zany p n || p n)
      rw [hp, Bool.or_false]
theorem zmany_1 {g : Nat → Nat} {k c : Nat} (h : zOk g k) : zmany (eg g k) 3 c = zb (zin (eg g k) c) := by
  unfold zmany zin
  rw [zcnt_eq (p2 := fun i => eg g k (6 + i) == c) (fun i _ => zhas_3)]
  refine zcnt_1 _ fun i j hi hj a1 a2 => Classical.byContradiction fun hne => ?_
  have a1 : eg g k (6 + i) = c := by simpa using a1
  have a2 : eg g k (6 + j) = c := by simpa using a2
  exact h.ne hi hj hne (a1.trans a2.symm)
theorem lp_M_common {Γ : zG} {l : Launch} (hl : l.stackTraces = false) {d : Nat} (hd : 3 ≤ d) {h : zH} {n a : Nat} {g : Nat → Nat} {s3 s5 s6 s7 s8 s10 s12 s16 s17 s18 s19 s20 : Int32} {B k t : Nat} (hI : IG B g) (f1 : k < g 0) (e1 : t < g 0) : ∀ i j, i + j = eg g k 5 → Z Γ l mM_common d 0 0 (zFin Γ (zR (some (.int (nI (zshare (eg g k) (eg g t))))) (z2 h a (zAr 0 246 (g)) (zMo a s3 s5 s6 s7 s8 s10 s12 s16 s17 s18 s19 s20)) n) 0 0) 5 [some (.ref a), some (.int (nI k)), some (.int (nI t)), some (.int (nI (zcnt (fun i => zin (eg g t) (eg g k (6 + i))) j))), some (.int (nI j))] [] (z2 h a (zAr 0 246 (g)) (zMo a s3 s5 s6 s7 s8 s10 s12 s16 s17 s18 s19 s20)) n 0 0 := by
  have i0 := hI.1
  have h5 := hI.s6 k f1
  have h5t := hI.s6 t e1
  have hc := hI.c f1
  have hct := hI.c e1
  have e5 : g (6 + 12 * k + 5) = eg g k 5 := rfl
  intro i
  induction i with
  | zero =>
    intro j hj
    obtain rfl : j = eg g k 5 := by omega
    refine zs_iload (pc := 5) dM_common_5 rfl ?_
    refine zs_aload_n (pc := 7) dM_common_7 rfl ?_
    refine zs_get (pc := 8) dM_common_8 fM_9 (by first | exact z2_a | exact z2_1) (by rfl) ?_
    refine zs_iload_n (pc := 11) dM_common_11 rfl ?_
    refine zcS1_1 (pc := 12) (d2 := d - 1) (s_M_entryAt hl) dM_common_12 kM_51 mdM_entryAt msM_entryAt rfl (Nat.le_of_ble_eq_true rfl) (by omega) (by omega) (by omega) ?_
    refine zs_iconst (pc := 15) dM_common_15 zi_5 ?_
    refine zn_iadd (pc := 16) dM_common_16 ?_
    refine zn_iald (pc := 17) dM_common_17 (by first | exact z2_a | exact z2_1) (by omega) (by first | decide | assumption) ?_
    refine zn_icmp_ge (pc := 18) 43 dM_common_18 rfl (by omega) (by omega) (fun _ => ?_) (fun h9 => absurd h9 (by omega))
    refine zs_iload_n (pc := 43) dM_common_43 rfl ?_
    exact zs_iret (pc := 44) dM_common_44 rfl rfl (by omega) (by omega) (⟨rfl, rfl, rfl⟩)
  | succ i ih =>
    intro j hj
    have hz := ih (j + 1) (by omega)
    have hcj := hc j (by omega)
    have hm := zmany_1 (g := g) (k := t) (c := eg g k (6 + j)) (hI.2.2.2.2.2.1 t e1)
    refine zs_iload (pc := 5) dM_common_5 rfl ?_
    refine zs_aload_n (pc := 7) dM_common_7 rfl ?_
    refine zs_get (pc := 8) dM_common_8 fM_9 (by first | exact z2_a | exact z2_1) (by rfl) ?_
    refine zs_iload_n (pc := 11) dM_common_11 rfl ?_
    refine zcS1_1 (pc := 12) (d2 := d - 1) (s_M_entryAt hl) dM_common_12 kM_51 mdM_entryAt msM_entryAt rfl (Nat.le_of_ble_eq_true rfl) (by omega) (by omega) (by omega) ?_
    refine zs_iconst (pc := 15) dM_common_15 zi_5 ?_
    refine zn_iadd (pc := 16) dM_common_16 ?_
    refine zn_iald (pc := 17) dM_common_17 (by first | exact z2_a | exact z2_1) (by omega) (by first | decide | assumption) ?_
    refine zn_icmp_ge (pc := 18) 43 dM_common_18 rfl (by omega) (by omega) (fun h9 => absurd h9 (by omega)) (fun _ => ?_)
    refine zs_iload_n (pc := 21) dM_common_21 rfl ?_
    refine zs_aload_n (pc := 22) dM_common_22 rfl ?_
    refine zs_iload_n (pc := 23) dM_common_23 rfl ?_
    refine zs_iconst (pc := 24) dM_common_24 zi_3 ?_
    refine zs_aload_n (pc := 25) dM_common_25 rfl ?_
    refine zs_iload_n (pc := 26) dM_common_26 rfl ?_
    refine zs_iload (pc := 27) dM_common_27 rfl ?_
    refine zcV1_2 (pc := 29) (d2 := d - 1) (s_M_codeOf hl (by omega) (by omega) (by omega)) dM_common_29 kM_62 mdM_codeOf miM_codeOf mvM_codeOf rfl (by exact z2_a) rfl (Nat.le_of_ble_eq_true rfl) (by omega) (by omega) (by omega) ?_
    refine zcV1_3 (pc := 32) (d2 := d - 1) (s_M_many hl (by omega) (by omega) h5t hct (by decide) (by omega)) dM_common_32 kM_70 mdM_many miM_many mvM_many rfl (by exact z2_a) rfl (Nat.le_of_ble_eq_true rfl) (by omega) (by omega) (by omega) ?_
    rw [hm]
    cases hp : zin (eg g t) (eg g k (6 + j)) with
    | true =>
      rw [zcnt_t (p := fun i => zin (eg g t) (eg g k (6 + i))) (n := j) hp] at hz
      refine zn_iadd (pc := 35) dM_common_35 ?_
      refine zs_istore_n (pc := 36) (ls2 := [_, _, _, _, _]) dM_common_36 (Nat.le_of_ble_eq_true rfl) rfl ?_
      refine zn_iinc (pc := 37) (ls2 := [_, _, _, _, _]) dM_common_37 rfl (Nat.le_of_ble_eq_true rfl) rfl ?_
      refine zs_goto (pc := 40) 5 dM_common_40 rfl ?_
      exact hz
    | false =>
      rw [zcnt_f (p := fun i => zin (eg g t) (eg g k (6 + i))) (n := j) hp] at hz
      refine zn_iadd (pc := 35) dM_common_35 ?_
      refine zs_istore_n (pc := 36) (ls2 := [_, _, _, _, _]) dM_common_36 (Nat.le_of_ble_eq_true rfl) rfl ?_
      refine zn_iinc (pc := 37) (ls2 := [_, _, _, _, _]) dM_common_37 rfl (Nat.le_of_ble_eq_true rfl) rfl ?_
      refine zs_goto (pc := 40) 5 dM_common_40 rfl ?_
      exact hz
theorem s_M_common {Γ : zG} {l : Launch} (hl : l.stackTraces = false) {d : Nat} (hd : 3 ≤ d) {h : zH} {n a : Nat} {g : Nat → Nat} {s3 s5 s6 s7 s8 s10 s12 s16 s17 s18 s19 s20 : Int32} {B k t : Nat} (hI : IG B g) (f1 : k < g 0) (e1 : t < g 0) : zC Γ l d mM_common [.ref a, .int (nI k), .int (nI t)] (z2 h a (zAr 0 246 (g)) (zMo a s3 s5 s6 s7 s8 s10 s12 s16 s17 s18 s19 s20)) n 0 0 (zR (some (.int (nI (zshare (eg g k) (eg g t))))) (z2 h a (zAr 0 246 (g)) (zMo a s3 s5 s6 s7 s8 s10 s12 s16 s17 s18 s19 s20)) n) := by
  refine zC_of (ls := [some (.ref a), some (.int (nI k)), some (.int (nI t)), none, none]) hl (by decide +kernel) rfl (Nat.le_of_ble_eq_true rfl) rfl ?_
  refine zs_iconst (pc := 0) dM_common_0 zi_0 ?_
  refine zs_istore_n (pc := 1) (ls2 := [_, _, _, _, _]) dM_common_1 (Nat.le_of_ble_eq_true rfl) rfl ?_
  refine zs_iconst (pc := 2) dM_common_2 zi_0 ?_
  refine zs_istore (pc := 3) (ls2 := [_, _, _, _, _]) dM_common_3 (Nat.le_of_ble_eq_true rfl) rfl ?_
  exact lp_M_common hl hd hI f1 e1 (eg g k 5) 0 rfl

