/-! the model's changes, further -/
theorem zV_3 {y : Int32} {w : Nat} (v1 : w ≤ 999) : w < 2 ^ 31 := by omega
theorem s_M_codeIt {Γ : zG} {l : Launch} (hl : l.stackTraces = false) {d : Nat} (hd : 4 ≤ d) {h : zH} {n a : Nat} {g : Nat → Nat} {s3 s5 s6 s7 s8 s10 s12 s16 s17 s18 s19 s20 : Int32} {B : Nat} (hI : IG B g) (hB : B < 2 ^ 20) (x y : Int32) : zC Γ l d mM_codeIt [.ref a, .int x, .int y] (z2 h a (zAr 0 246 (g)) (zMo a s3 s5 s6 s7 s8 s10 s12 s16 s17 s18 s19 s20)) n 0 0 (zR (some (.int (zma (zopCode g x y)))) (z2 h a (zAr 0 246 ((zopCode g x y).2.2)) (zMo a s3 s5 s6 s7 (zmth s8 (zopCode g x y)) s10 s12 s16 s17 s18 s19 s20)) n) := by
  have i0 := hI.1
  unfold zopCode
  refine zC_of (ls := [some (.ref a), some (.int x), some (.int y), none]) hl (by decide +kernel) rfl (Nat.le_of_ble_eq_true rfl) rfl ?_
  cases hH : zHas g x with
  | false =>
    rw [if_neg (by decide)]
    refine zs_aload_n (pc := 0) dM_codeIt_0 rfl ?_
    refine zs_iload_n (pc := 1) dM_codeIt_1 rfl ?_
    refine zcV1_1 (pc := 2) (d2 := d - 1) (s_M_find_n hl (by omega) i0 hH) dM_codeIt_2 kM_102 mdM_find miM_find mvM_find rfl (by exact z2_a) rfl (Nat.le_of_ble_eq_true rfl) (by omega) (by omega) (by omega) ?_
    refine zs_istore_n (pc := 5) (ls2 := [_, _, _, _]) dM_codeIt_5 (Nat.le_of_ble_eq_true rfl) rfl ?_
    refine zs_iload_n (pc := 6) dM_codeIt_6 rfl ?_
    refine zs_iconst (pc := 7) dM_codeIt_7 zi_m1 ?_
    refine zs_icmp_ne (pc := 8) 17 dM_codeIt_8 rfl (fun h9 => absurd h9 (fun q => q rfl)) (fun _ => ?_)
    refine zs_aload_n (pc := 11) dM_codeIt_11 rfl ?_
    refine zs_iconst (pc := 12) dM_codeIt_12 zi_1 ?_
    refine zcV1_1 (pc := 13) (d2 := d - 1) (s_M_throwing hl) dM_codeIt_13 kM_90 mdM_throwing miM_throwing mvM_throwing rfl (by exact z2_a) rfl (Nat.le_of_ble_eq_true rfl) (by omega) (by omega) (by omega) ?_
    exact zs_iret (pc := 16) dM_codeIt_16 rfl rfl (by omega) (by omega) (⟨rfl, rfl, rfl⟩)
  | true =>
    rw [if_pos rfl]
    obtain ⟨f1, f2, f3⟩ := zHas_y hH
    generalize zAt g x = k at f1 f2 f3 ⊢
    have h5 := hI.s6 k f1
    have hc := hI.c f1
    have hkn : ¬ nI k = -1 := fun q => by
      have h9 := nI_pos (n := k) (by omega)
      rw [q] at h9
      exact h9 (by decide)
    cases hv : zV y 0 999 with
    | false =>
      rw [if_neg (by decide)]
      refine zs_aload_n (pc := 0) dM_codeIt_0 rfl ?_
      refine zs_iload_n (pc := 1) dM_codeIt_1 rfl ?_
      refine zcV1_1 (pc := 2) (d2 := d - 1) (s_M_find_y hl (by omega) i0 f1 f2 f3) dM_codeIt_2 kM_102 mdM_find miM_find mvM_find rfl (by exact z2_a) rfl (Nat.le_of_ble_eq_true rfl) (by omega) (by omega) (by omega) ?_
      refine zs_istore_n (pc := 5) (ls2 := [_, _, _, _]) dM_codeIt_5 (Nat.le_of_ble_eq_true rfl) rfl ?_
      refine zs_iload_n (pc := 6) dM_codeIt_6 rfl ?_
      refine zs_iconst (pc := 7) dM_codeIt_7 zi_m1 ?_
      refine zs_icmp_ne (pc := 8) 17 dM_codeIt_8 rfl (fun _ => ?_) (fun h9 => absurd h9 (hkn))
      refine zs_iload_n (pc := 17) dM_codeIt_17 rfl ?_
      refine zs_i2l (pc := 18) dM_codeIt_18 ?_
      refine zs_lconst (pc := 19) (v := 0) dM_codeIt_19 (by decide) ?_
      refine zs_ldc2 (pc := 20) (v := 999) dM_codeIt_20 (zt6 (i := 149) rfl) ?_
      refine zcS1_3 (pc := 23) (d2 := d - 1) (s_M_inV_n hl (by decide) (by decide) hv) dM_codeIt_23 kM_55 mdM_in msM_in rfl (Nat.le_of_ble_eq_true rfl) (by omega) (by omega) (by omega) ?_
      refine zs_if_ne (pc := 26) 35 dM_codeIt_26 rfl (fun h9 => absurd h9 (by decide)) (fun _ => ?_)
      refine zs_aload_n (pc := 29) dM_codeIt_29 rfl ?_
      refine zs_iconst (pc := 30) dM_codeIt_30 zi_2 ?_
      refine zcV1_1 (pc := 31) (d2 := d - 1) (s_M_throwing hl) dM_codeIt_31 kM_90 mdM_throwing miM_throwing mvM_throwing rfl (by exact z2_a) rfl (Nat.le_of_ble_eq_true rfl) (by omega) (by omega) (by omega) ?_
      exact zs_iret (pc := 34) dM_codeIt_34 rfl rfl (by omega) (by omega) (⟨rfl, rfl, rfl⟩)
    | true =>
      rw [if_pos rfl]
      have hv9 := hv
      obtain ⟨v1, v2, v3⟩ := zV_y hv
      generalize y.toInt.toNat = w at v1 v2 v3 ⊢
      subst v3
      have hmz : 0 < zmany (eg g k) 3 w ↔ zin (eg g k) w = true := by rw [← zin_dec, decide_eq_true_iff]
      have hm6 : zmany (eg g k) 3 w ≤ eg g k 5 := zcnt_le _ _
      have e5 : g (6 + 12 * k + 5) = eg g k 5 := rfl
      by_cases e : zin (eg g k) w = true
      · rw [if_pos (Or.inl e)]
        have hm := hmz.mpr e
        refine zs_aload_n (pc := 0) dM_codeIt_0 rfl ?_
        refine zs_iload_n (pc := 1) dM_codeIt_1 rfl ?_
        refine zcV1_1 (pc := 2) (d2 := d - 1) (s_M_find_y hl (by omega) i0 f1 f2 f3) dM_codeIt_2 kM_102 mdM_find miM_find mvM_find rfl (by exact z2_a) rfl (Nat.le_of_ble_eq_true rfl) (by omega) (by omega) (by omega) ?_
        refine zs_istore_n (pc := 5) (ls2 := [_, _, _, _]) dM_codeIt_5 (Nat.le_of_ble_eq_true rfl) rfl ?_
        refine zs_iload_n (pc := 6) dM_codeIt_6 rfl ?_
        refine zs_iconst (pc := 7) dM_codeIt_7 zi_m1 ?_
        refine zs_icmp_ne (pc := 8) 17 dM_codeIt_8 rfl (fun _ => ?_) (fun h9 => absurd h9 (hkn))
        refine zs_iload_n (pc := 17) dM_codeIt_17 rfl ?_
        refine zs_i2l (pc := 18) dM_codeIt_18 ?_
        refine zs_lconst (pc := 19) (v := 0) dM_codeIt_19 (by decide) ?_
        refine zs_ldc2 (pc := 20) (v := 999) dM_codeIt_20 (zt6 (i := 149) rfl) ?_
        refine zcS1_3 (pc := 23) (d2 := d - 1) (s_M_inV_y hl (by decide) (by decide) hv9) dM_codeIt_23 kM_55 mdM_in msM_in rfl (Nat.le_of_ble_eq_true rfl) (by omega) (by omega) (by omega) ?_
        refine zs_if_ne (pc := 26) 35 dM_codeIt_26 rfl (fun _ => ?_) (fun h9 => absurd h9 (by decide))
        refine zs_aload_n (pc := 35) dM_codeIt_35 rfl ?_
        refine zs_iload_n (pc := 36) dM_codeIt_36 rfl ?_
        refine zs_iconst (pc := 37) dM_codeIt_37 zi_3 ?_
        refine zs_iload_n (pc := 38) dM_codeIt_38 rfl ?_
        refine zcV1_3 (pc := 39) (d2 := d - 1) (s_M_many hl (by omega) (by omega) h5 hc (by decide) (by omega)) dM_codeIt_39 kM_70 mdM_many miM_many mvM_many rfl (by exact z2_a) rfl (Nat.le_of_ble_eq_true rfl) (by omega) (by omega) (by omega) ?_
        refine zn_if_gt (pc := 42) 61 dM_codeIt_42 rfl (by omega) (fun _ => ?_) (fun h9 => absurd h9 (by omega))
        refine zs_aload_n (pc := 61) dM_codeIt_61 rfl ?_
        refine zs_iconst (pc := 62) dM_codeIt_62 zi_3 ?_
        refine zcV1_1 (pc := 63) (d2 := d - 1) (s_M_throwing hl) dM_codeIt_63 kM_90 mdM_throwing miM_throwing mvM_throwing rfl (by exact z2_a) rfl (Nat.le_of_ble_eq_true rfl) (by omega) (by omega) (by omega) ?_
        exact zs_iret (pc := 66) dM_codeIt_66 rfl rfl (by omega) (by omega) (⟨rfl, rfl, rfl⟩)
      · have hm : ¬ 0 < zmany (eg g k) 3 w := fun q => e (hmz.mp q)
        by_cases e6 : eg g k 5 = 6
        · rw [if_pos (Or.inr e6)]
          refine zs_aload_n (pc := 0) dM_codeIt_0 rfl ?_
          refine zs_iload_n (pc := 1) dM_codeIt_1 rfl ?_
          refine zcV1_1 (pc := 2) (d2 := d - 1) (s_M_find_y hl (by omega) i0 f1 f2 f3) dM_codeIt_2 kM_102 mdM_find miM_find mvM_find rfl (by exact z2_a) rfl (Nat.le_of_ble_eq_true rfl) (by omega) (by omega) (by omega) ?_
          refine zs_istore_n (pc := 5) (ls2 := [_, _, _, _]) dM_codeIt_5 (Nat.le_of_ble_eq_true rfl) rfl ?_
          refine zs_iload_n (pc := 6) dM_codeIt_6 rfl ?_
          refine zs_iconst (pc := 7) dM_codeIt_7 zi_m1 ?_
          refine zs_icmp_ne (pc := 8) 17 dM_codeIt_8 rfl (fun _ => ?_) (fun h9 => absurd h9 (hkn))
          refine zs_iload_n (pc := 17) dM_codeIt_17 rfl ?_
          refine zs_i2l (pc := 18) dM_codeIt_18 ?_
          refine zs_lconst (pc := 19) (v := 0) dM_codeIt_19 (by decide) ?_
          refine zs_ldc2 (pc := 20) (v := 999) dM_codeIt_20 (zt6 (i := 149) rfl) ?_
          refine zcS1_3 (pc := 23) (d2 := d - 1) (s_M_inV_y hl (by decide) (by decide) hv9) dM_codeIt_23 kM_55 mdM_in msM_in rfl (Nat.le_of_ble_eq_true rfl) (by omega) (by omega) (by omega) ?_
          refine zs_if_ne (pc := 26) 35 dM_codeIt_26 rfl (fun _ => ?_) (fun h9 => absurd h9 (by decide))
          refine zs_aload_n (pc := 35) dM_codeIt_35 rfl ?_
          refine zs_iload_n (pc := 36) dM_codeIt_36 rfl ?_
          refine zs_iconst (pc := 37) dM_codeIt_37 zi_3 ?_
          refine zs_iload_n (pc := 38) dM_codeIt_38 rfl ?_
          refine zcV1_3 (pc := 39) (d2 := d - 1) (s_M_many hl (by omega) (by omega) h5 hc (by decide) (by omega)) dM_codeIt_39 kM_70 mdM_many miM_many mvM_many rfl (by exact z2_a) rfl (Nat.le_of_ble_eq_true rfl) (by omega) (by omega) (by omega) ?_
          refine zn_if_gt (pc := 42) 61 dM_codeIt_42 rfl (by omega) (fun h9 => absurd h9 (by omega)) (fun _ => ?_)
          refine zs_aload_n (pc := 45) dM_codeIt_45 rfl ?_
          refine zs_get (pc := 46) dM_codeIt_46 fM_9 (by first | exact z2_a | exact z2_1) (by rfl) ?_
          refine zs_iload_n (pc := 49) dM_codeIt_49 rfl ?_
          refine zcS1_1 (pc := 50) (d2 := d - 1) (s_M_entryAt hl) dM_codeIt_50 kM_51 mdM_entryAt msM_entryAt rfl (Nat.le_of_ble_eq_true rfl) (by omega) (by omega) (by omega) ?_
          refine zs_iconst (pc := 53) dM_codeIt_53 zi_5 ?_
          refine zn_iadd (pc := 54) dM_codeIt_54 ?_
          refine zn_iald (pc := 55) dM_codeIt_55 (by first | exact z2_a | exact z2_1) (by omega) (by first | decide | assumption) ?_
          refine zs_bipush (pc := 56) dM_codeIt_56 (zi_b 6 (by decide)) ?_
          refine zn_icmp_ne (pc := 58) 67 dM_codeIt_58 rfl (by omega) (by omega) (fun h9 => absurd h9 (by omega)) (fun _ => ?_)
          refine zs_aload_n (pc := 61) dM_codeIt_61 rfl ?_
          refine zs_iconst (pc := 62) dM_codeIt_62 zi_3 ?_
          refine zcV1_1 (pc := 63) (d2 := d - 1) (s_M_throwing hl) dM_codeIt_63 kM_90 mdM_throwing miM_throwing mvM_throwing rfl (by exact z2_a) rfl (Nat.le_of_ble_eq_true rfl) (by omega) (by omega) (by omega) ?_
          exact zs_iret (pc := 66) dM_codeIt_66 rfl rfl (by omega) (by omega) (⟨rfl, rfl, rfl⟩)
        · rw [if_neg (by rintro (q | q); exact e q; exact e6 q)]
          have er : zput g k (zins (eg g k) w) (6 + 12 * k + 5) = eg g k 5 + 1 := by rw [zput_at (by decide)]; rfl
          refine zs_aload_n (pc := 0) dM_codeIt_0 rfl ?_
          refine zs_iload_n (pc := 1) dM_codeIt_1 rfl ?_
          refine zcV1_1 (pc := 2) (d2 := d - 1) (s_M_find_y hl (by omega) i0 f1 f2 f3) dM_codeIt_2 kM_102 mdM_find miM_find mvM_find rfl (by exact z2_a) rfl (Nat.le_of_ble_eq_true rfl) (by omega) (by omega) (by omega) ?_
          refine zs_istore_n (pc := 5) (ls2 := [_, _, _, _]) dM_codeIt_5 (Nat.le_of_ble_eq_true rfl) rfl ?_
          refine zs_iload_n (pc := 6) dM_codeIt_6 rfl ?_
          refine zs_iconst (pc := 7) dM_codeIt_7 zi_m1 ?_
          refine zs_icmp_ne (pc := 8) 17 dM_codeIt_8 rfl (fun _ => ?_) (fun h9 => absurd h9 (hkn))
          refine zs_iload_n (pc := 17) dM_codeIt_17 rfl ?_
          refine zs_i2l (pc := 18) dM_codeIt_18 ?_
          refine zs_lconst (pc := 19) (v := 0) dM_codeIt_19 (by decide) ?_
          refine zs_ldc2 (pc := 20) (v := 999) dM_codeIt_20 (zt6 (i := 149) rfl) ?_
          refine zcS1_3 (pc := 23) (d2 := d - 1) (s_M_inV_y hl (by decide) (by decide) hv9) dM_codeIt_23 kM_55 mdM_in msM_in rfl (Nat.le_of_ble_eq_true rfl) (by omega) (by omega) (by omega) ?_
          refine zs_if_ne (pc := 26) 35 dM_codeIt_26 rfl (fun _ => ?_) (fun h9 => absurd h9 (by decide))
          refine zs_aload_n (pc := 35) dM_codeIt_35 rfl ?_
          refine zs_iload_n (pc := 36) dM_codeIt_36 rfl ?_
          refine zs_iconst (pc := 37) dM_codeIt_37 zi_3 ?_
          refine zs_iload_n (pc := 38) dM_codeIt_38 rfl ?_
          refine zcV1_3 (pc := 39) (d2 := d - 1) (s_M_many hl (by omega) (by omega) h5 hc (by decide) (by omega)) dM_codeIt_39 kM_70 mdM_many miM_many mvM_many rfl (by exact z2_a) rfl (Nat.le_of_ble_eq_true rfl) (by omega) (by omega) (by omega) ?_
          refine zn_if_gt (pc := 42) 61 dM_codeIt_42 rfl (by omega) (fun h9 => absurd h9 (by omega)) (fun _ => ?_)
          refine zs_aload_n (pc := 45) dM_codeIt_45 rfl ?_
          refine zs_get (pc := 46) dM_codeIt_46 fM_9 (by first | exact z2_a | exact z2_1) (by rfl) ?_
          refine zs_iload_n (pc := 49) dM_codeIt_49 rfl ?_
          refine zcS1_1 (pc := 50) (d2 := d - 1) (s_M_entryAt hl) dM_codeIt_50 kM_51 mdM_entryAt msM_entryAt rfl (Nat.le_of_ble_eq_true rfl) (by omega) (by omega) (by omega) ?_
          refine zs_iconst (pc := 53) dM_codeIt_53 zi_5 ?_
          refine zn_iadd (pc := 54) dM_codeIt_54 ?_
          refine zn_iald (pc := 55) dM_codeIt_55 (by first | exact z2_a | exact z2_1) (by omega) (by first | decide | assumption) ?_
          refine zs_bipush (pc := 56) dM_codeIt_56 (zi_b 6 (by decide)) ?_
          refine zn_icmp_ne (pc := 58) 67 dM_codeIt_58 rfl (by omega) (by omega) (fun _ => ?_) (fun h9 => absurd h9 (by omega))
          refine zs_aload_n (pc := 67) dM_codeIt_67 rfl ?_
          refine zs_iload_n (pc := 68) dM_codeIt_68 rfl ?_
          refine zs_iload_n (pc := 69) dM_codeIt_69 rfl ?_
          refine zcV0_2 (pc := 70) (d2 := d - 1) (s_M_puts hl (by omega) (by omega) (by omega) hc (by omega)) dM_codeIt_70 kM_107 mdM_puts miM_puts mvM_puts rfl (by exact z2_a) rfl (Nat.le_of_ble_eq_true rfl) (by omega) (by omega) (by omega) ?_
          refine zs_aload_n (pc := 73) dM_codeIt_73 rfl ?_
          refine zs_get (pc := 74) dM_codeIt_74 fM_9 (by first | exact z2_a | exact z2_1) (by rfl) ?_
          refine zs_iload_n (pc := 77) dM_codeIt_77 rfl ?_
          refine zcS1_1 (pc := 78) (d2 := d - 1) (s_M_entryAt hl) dM_codeIt_78 kM_51 mdM_entryAt msM_entryAt rfl (Nat.le_of_ble_eq_true rfl) (by omega) (by omega) (by omega) ?_
          refine zs_iconst (pc := 81) dM_codeIt_81 zi_5 ?_
          refine zn_iadd (pc := 82) dM_codeIt_82 ?_
          refine zn_iald (pc := 83) dM_codeIt_83 (by first | exact z2_a | exact z2_1) (by omega) (by first | decide | assumption) ?_
          rw [er]
          exact zs_iret (pc := 84) dM_codeIt_84 rfl rfl (by omega) (by omega) (⟨rfl, rfl, rfl⟩)
theorem s_M_dropIt {Γ : zG} {l : Launch} (hl : l.stackTraces = false) {d : Nat} (hd : 4 ≤ d) {h : zH} {n a : Nat} {g : Nat → Nat} {s3 s5 s6 s7 s8 s10 s12 s16 s17 s18 s19 s20 : Int32} {B : Nat} (hI : IG B g) (hB : B < 2 ^ 20) (x : Int32) : zC Γ l d mM_dropIt [.ref a, .int x] (z2 h a (zAr 0 246 (g)) (zMo a s3 s5 s6 s7 s8 s10 s12 s16 s17 s18 s19 s20)) n 0 0 (zR (some (.int (zma (zopDrop g x)))) (z2 h a (zAr 0 246 ((zopDrop g x).2.2)) (zMo a s3 s5 s6 s7 (zmth s8 (zopDrop g x)) s10 s12 s16 s17 s18 s19 s20)) n) := by
  have i0 := hI.1
  unfold zopDrop
  refine zC_of (ls := [some (.ref a), some (.int x), none]) hl (by decide +kernel) rfl (Nat.le_of_ble_eq_true rfl) rfl ?_
  cases hH : zHas g x with
  | false =>
    rw [if_neg (by decide)]
    refine zs_aload_n (pc := 0) dM_dropIt_0 rfl ?_
    refine zs_iload_n (pc := 1) dM_dropIt_1 rfl ?_
    refine zcV1_1 (pc := 2) (d2 := d - 1) (s_M_find_n hl (by omega) i0 hH) dM_dropIt_2 kM_102 mdM_find miM_find mvM_find rfl (by exact z2_a) rfl (Nat.le_of_ble_eq_true rfl) (by omega) (by omega) (by omega) ?_
    refine zs_istore_n (pc := 5) (ls2 := [_, _, _]) dM_dropIt_5 (Nat.le_of_ble_eq_true rfl) rfl ?_
    refine zs_iload_n (pc := 6) dM_dropIt_6 rfl ?_
    refine zs_iconst (pc := 7) dM_dropIt_7 zi_m1 ?_
    refine zs_icmp_ne (pc := 8) 17 dM_dropIt_8 rfl (fun h9 => absurd h9 (fun q => q rfl)) (fun _ => ?_)
    refine zs_aload_n (pc := 11) dM_dropIt_11 rfl ?_
    refine zs_iconst (pc := 12) dM_dropIt_12 zi_1 ?_
    refine zcV1_1 (pc := 13) (d2 := d - 1) (s_M_throwing hl) dM_dropIt_13 kM_90 mdM_throwing miM_throwing mvM_throwing rfl (by exact z2_a) rfl (Nat.le_of_ble_eq_true rfl) (by omega) (by omega) (by omega) ?_
    exact zs_iret (pc := 16) dM_dropIt_16 rfl rfl (by omega) (by omega) (⟨rfl, rfl, rfl⟩)
  | true =>
    rw [if_pos rfl]
    obtain ⟨f1, f2, f3⟩ := zHas_y hH
    generalize zAt g x = k at f1 f2 f3 ⊢
    have hkn : ¬ nI k = -1 := fun q => by
      have h9 := nI_pos (n := k) (by omega)
      rw [q] at h9
      exact h9 (by decide)
    have e3 : zlv g k 3 = g 3 := by rw [zlv_lo (by decide), if_neg (by decide)]
    have e0 : zup (zlv g k) 3 (g 3 + 1) 0 = g 0 - 1 := by rw [zup_n (by decide), zlv_lo (by decide), if_pos rfl]
    refine zs_aload_n (pc := 0) dM_dropIt_0 rfl ?_
    refine zs_iload_n (pc := 1) dM_dropIt_1 rfl ?_
    refine zcV1_1 (pc := 2) (d2 := d - 1) (s_M_find_y hl (by omega) i0 f1 f2 f3) dM_dropIt_2 kM_102 mdM_find miM_find mvM_find rfl (by exact z2_a) rfl (Nat.le_of_ble_eq_true rfl) (by omega) (by omega) (by omega) ?_
    refine zs_istore_n (pc := 5) (ls2 := [_, _, _]) dM_dropIt_5 (Nat.le_of_ble_eq_true rfl) rfl ?_
    refine zs_iload_n (pc := 6) dM_dropIt_6 rfl ?_
    refine zs_iconst (pc := 7) dM_dropIt_7 zi_m1 ?_
    refine zs_icmp_ne (pc := 8) 17 dM_dropIt_8 rfl (fun _ => ?_) (fun h9 => absurd h9 (hkn))
    refine zs_aload_n (pc := 17) dM_dropIt_17 rfl ?_
    refine zs_iload_n (pc := 18) dM_dropIt_18 rfl ?_
    refine zcV0_1 (pc := 19) (d2 := d - 1) (s_M_leaves hl (by omega) (by omega) (by omega)) dM_dropIt_19 kM_117 mdM_leaves miM_leaves mvM_leaves rfl (by exact z2_a) rfl (Nat.le_of_ble_eq_true rfl) (by omega) (by omega) (by omega) ?_
    refine zs_aload_n (pc := 22) dM_dropIt_22 rfl ?_
    refine zs_get (pc := 23) dM_dropIt_23 fM_9 (by first | exact z2_a | exact z2_1) (by rfl) ?_
    refine zs_iconst (pc := 26) dM_dropIt_26 zi_3 ?_
    refine zs_dup2 (pc := 27) dM_dropIt_27 rfl rfl ?_
    refine zn_iald (pc := 28) dM_dropIt_28 (by first | exact z2_a | exact z2_1) (by omega) (by first | decide | assumption) ?_
    rw [e3]
    refine zs_iconst (pc := 29) dM_dropIt_29 zi_1 ?_
    refine zn_iadd (pc := 30) dM_dropIt_30 ?_
    refine zn_iast (pc := 31) dM_dropIt_31 (by first | exact z2_a | exact z2_1) (by omega) (by first | decide | assumption) ?_
    first | rw [z2_G] | rw [z2_q2] | rw [z2_q3] | rw [z2_q4] | rw [z2_q5] | rw [z2_q6] | rw [z2_q9]
    refine zs_aload_n (pc := 32) dM_dropIt_32 rfl ?_
    refine zs_get (pc := 33) dM_dropIt_33 fM_9 (by first | exact z2_a | exact z2_1) (by rfl) ?_
    refine zs_iconst (pc := 36) dM_dropIt_36 zi_0 ?_
    refine zn_iald (pc := 37) dM_dropIt_37 (by first | exact z2_a | exact z2_1) (by omega) (by first | decide | assumption) ?_
    rw [e0]
    exact zs_iret (pc := 38) dM_dropIt_38 rfl rfl (by omega) (by omega) (⟨rfl, rfl, rfl⟩)
theorem s_M_touchIt {Γ : zG} {l : Launch} (hl : l.stackTraces = false) {d : Nat} (hd : 4 ≤ d) {h : zH} {n a : Nat} {g : Nat → Nat} {s3 s5 s6 s7 s8 s10 s12 s16 s17 s18 s19 s20 : Int32} {B : Nat} (hI : IG B g) (hB : B < 2 ^ 20) (x : Int32) : zC Γ l d mM_touchIt [.ref a, .int x] (z2 h a (zAr 0 246 (g)) (zMo a s3 s5 s6 s7 s8 s10 s12 s16 s17 s18 s19 s20)) n 0 0 (zR (some (.int (zma (zopTouch g x)))) (z2 h a (zAr 0 246 ((zopTouch g x).2.2)) (zMo a s3 s5 s6 s7 (zmth s8 (zopTouch g x)) s10 s12 s16 s17 s18 s19 s20)) n) := by
  have i0 := hI.1
  unfold zopTouch
  refine zC_of (ls := [some (.ref a), some (.int x), none, none]) hl (by decide +kernel) rfl (Nat.le_of_ble_eq_true rfl) rfl ?_
  cases hH : zHas g x with
  | false =>
    rw [if_neg (by decide)]
    refine zs_aload_n (pc := 0) dM_touchIt_0 rfl ?_
    refine zs_iload_n (pc := 1) dM_touchIt_1 rfl ?_
    refine zcV1_1 (pc := 2) (d2 := d - 1) (s_M_find_n hl (by omega) i0 hH) dM_touchIt_2 kM_102 mdM_find miM_find mvM_find rfl (by exact z2_a) rfl (Nat.le_of_ble_eq_true rfl) (by omega) (by omega) (by omega) ?_
    refine zs_istore_n (pc := 5) (ls2 := [_, _, _, _]) dM_touchIt_5 (Nat.le_of_ble_eq_true rfl) rfl ?_
    refine zs_iload_n (pc := 6) dM_touchIt_6 rfl ?_
    refine zs_iconst (pc := 7) dM_touchIt_7 zi_m1 ?_
    refine zs_icmp_ne (pc := 8) 17 dM_touchIt_8 rfl (fun h9 => absurd h9 (fun q => q rfl)) (fun _ => ?_)
    refine zs_aload_n (pc := 11) dM_touchIt_11 rfl ?_
    refine zs_iconst (pc := 12) dM_touchIt_12 zi_1 ?_
    refine zcV1_1 (pc := 13) (d2 := d - 1) (s_M_throwing hl) dM_touchIt_13 kM_90 mdM_throwing miM_throwing mvM_throwing rfl (by exact z2_a) rfl (Nat.le_of_ble_eq_true rfl) (by omega) (by omega) (by omega) ?_
    exact zs_iret (pc := 16) dM_touchIt_16 rfl rfl (by omega) (by omega) (⟨rfl, rfl, rfl⟩)
  | true =>
    rw [if_pos rfl]
    obtain ⟨f1, f2, f3⟩ := zHas_y hH
    generalize zAt g x = k at f1 f2 f3 ⊢
    have hkn : ¬ nI k = -1 := fun q => by
      have h9 := nI_pos (n := k) (by omega)
      rw [q] at h9
      exact h9 (by decide)
    refine zs_aload_n (pc := 0) dM_touchIt_0 rfl ?_
    refine zs_iload_n (pc := 1) dM_touchIt_1 rfl ?_
    refine zcV1_1 (pc := 2) (d2 := d - 1) (s_M_find_y hl (by omega) i0 f1 f2 f3) dM_touchIt_2 kM_102 mdM_find miM_find mvM_find rfl (by exact z2_a) rfl (Nat.le_of_ble_eq_true rfl) (by omega) (by omega) (by omega) ?_
    refine zs_istore_n (pc := 5) (ls2 := [_, _, _, _]) dM_touchIt_5 (Nat.le_of_ble_eq_true rfl) rfl ?_
    refine zs_iload_n (pc := 6) dM_touchIt_6 rfl ?_
    refine zs_iconst (pc := 7) dM_touchIt_7 zi_m1 ?_
    refine zs_icmp_ne (pc := 8) 17 dM_touchIt_8 rfl (fun _ => ?_) (fun h9 => absurd h9 (hkn))
    refine zs_aload_n (pc := 17) dM_touchIt_17 rfl ?_
    refine zs_get (pc := 18) dM_touchIt_18 fM_9 (by first | exact z2_a | exact z2_1) (by rfl) ?_
    refine zs_iload_n (pc := 21) dM_touchIt_21 rfl ?_
    refine zcS1_1 (pc := 22) (d2 := d - 1) (s_M_entryAt hl) dM_touchIt_22 kM_51 mdM_entryAt msM_entryAt rfl (Nat.le_of_ble_eq_true rfl) (by omega) (by omega) (by omega) ?_
    refine zs_iconst (pc := 25) dM_touchIt_25 zi_2 ?_
    refine zn_iadd (pc := 26) dM_touchIt_26 ?_
    refine zn_iald (pc := 27) dM_touchIt_27 (by first | exact z2_a | exact z2_1) (by omega) (by first | decide | assumption) ?_
    refine zs_istore_n (pc := 28) (ls2 := [_, _, _, _]) dM_touchIt_28 (Nat.le_of_ble_eq_true rfl) rfl ?_
    refine zs_aload_n (pc := 29) dM_touchIt_29 rfl ?_
    refine zs_get (pc := 30) dM_touchIt_30 fM_9 (by first | exact z2_a | exact z2_1) (by rfl) ?_
    refine zs_iload_n (pc := 33) dM_touchIt_33 rfl ?_
    refine zcS1_1 (pc := 34) (d2 := d - 1) (s_M_entryAt hl) dM_touchIt_34 kM_51 mdM_entryAt msM_entryAt rfl (Nat.le_of_ble_eq_true rfl) (by omega) (by omega) (by omega) ?_
    refine zs_iconst (pc := 37) dM_touchIt_37 zi_2 ?_
    refine zn_iadd (pc := 38) dM_touchIt_38 ?_
    refine zs_iconst (pc := 39) dM_touchIt_39 zi_0 ?_
    refine zn_iast (pc := 40) dM_touchIt_40 (by first | exact z2_a | exact z2_1) (by omega) (by first | decide | assumption) ?_
    first | rw [z2_G] | rw [z2_q2] | rw [z2_q3] | rw [z2_q4] | rw [z2_q5] | rw [z2_q6] | rw [z2_q9]
    refine zs_iload_n (pc := 41) dM_touchIt_41 rfl ?_
    exact zs_iret (pc := 42) dM_touchIt_42 rfl rfl (by omega) (by omega) (⟨rfl, rfl, rfl⟩)
theorem s_M_segmentIt {Γ : zG} {l : Launch} (hl : l.stackTraces = false) {d : Nat} (hd : 1 ≤ d) {h : zH} {n a : Nat} {g : Nat → Nat} {s3 s5 s6 s7 s8 s10 s12 s16 s17 s18 s19 s20 : Int32} {B : Nat} (hI : IG B g) (hB : B < 2 ^ 20) : zC Γ l d mM_segmentIt [.ref a] (z2 h a (zAr 0 246 (g)) (zMo a s3 s5 s6 s7 s8 s10 s12 s16 s17 s18 s19 s20)) n 0 0 (zR (some (.int (zma (zopSeg g)))) (z2 h a (zAr 0 246 ((zopSeg g).2.2)) (zMo a s3 s5 s6 s7 (zmth s8 (zopSeg g)) s10 s12 s16 s17 s18 s19 s20)) n) := by
  have i2 := hI.2.2.1
  have i3 := hI.2.2.2.1
  unfold zopSeg
  refine zC_of (ls := [some (.ref a)]) hl (by decide +kernel) rfl (Nat.le_of_ble_eq_true rfl) rfl ?_
  by_cases e : g 2 = 5
  · rw [if_pos e]
    refine zs_aload_n (pc := 0) dM_segmentIt_0 rfl ?_
    refine zs_get (pc := 1) dM_segmentIt_1 fM_9 (by first | exact z2_a | exact z2_1) (by rfl) ?_
    refine zs_iconst (pc := 4) dM_segmentIt_4 zi_2 ?_
    refine zn_iald (pc := 5) dM_segmentIt_5 (by first | exact z2_a | exact z2_1) (by omega) (by first | decide | assumption) ?_
    refine zs_iconst (pc := 6) dM_segmentIt_6 zi_5 ?_
    refine zn_icmp_ne (pc := 7) 16 dM_segmentIt_7 rfl (by omega) (by omega) (fun h9 => absurd h9 (by omega)) (fun _ => ?_)
    refine zs_aload_n (pc := 10) dM_segmentIt_10 rfl ?_
    refine zs_iconst (pc := 11) dM_segmentIt_11 zi_1 ?_
    refine zcV1_1 (pc := 12) (d2 := d - 1) (s_M_throwing hl) dM_segmentIt_12 kM_90 mdM_throwing miM_throwing mvM_throwing rfl (by exact z2_a) rfl (Nat.le_of_ble_eq_true rfl) (by omega) (by omega) (by omega) ?_
    exact zs_iret (pc := 15) dM_segmentIt_15 rfl rfl (by omega) (by omega) (⟨rfl, rfl, rfl⟩)
  · rw [if_neg e]
    have e2 : zup g 2 (g 2 + 1) 2 = g 2 + 1 := zup_s
    refine zs_aload_n (pc := 0) dM_segmentIt_0 rfl ?_
    refine zs_get (pc := 1) dM_segmentIt_1 fM_9 (by first | exact z2_a | exact z2_1) (by rfl) ?_
    refine zs_iconst (pc := 4) dM_segmentIt_4 zi_2 ?_
    refine zn_iald (pc := 5) dM_segmentIt_5 (by first | exact z2_a | exact z2_1) (by omega) (by first | decide | assumption) ?_
    refine zs_iconst (pc := 6) dM_segmentIt_6 zi_5 ?_
    refine zn_icmp_ne (pc := 7) 16 dM_segmentIt_7 rfl (by omega) (by omega) (fun _ => ?_) (fun h9 => absurd h9 (by omega))
    refine zs_aload_n (pc := 16) dM_segmentIt_16 rfl ?_
    refine zs_get (pc := 17) dM_segmentIt_17 fM_9 (by first | exact z2_a | exact z2_1) (by rfl) ?_
    refine zs_iconst (pc := 20) dM_segmentIt_20 zi_2 ?_
    refine zs_dup2 (pc := 21) dM_segmentIt_21 rfl rfl ?_
    refine zn_iald (pc := 22) dM_segmentIt_22 (by first | exact z2_a | exact z2_1) (by omega) (by first | decide | assumption) ?_
    refine zs_iconst (pc := 23) dM_segmentIt_23 zi_1 ?_
    refine zn_iadd (pc := 24) dM_segmentIt_24 ?_
    refine zn_iast (pc := 25) dM_segmentIt_25 (by first | exact z2_a | exact z2_1) (by omega) (by first | decide | assumption) ?_
    first | rw [z2_G] | rw [z2_q2] | rw [z2_q3] | rw [z2_q4] | rw [z2_q5] | rw [z2_q6] | rw [z2_q9]
    refine zs_aload_n (pc := 26) dM_segmentIt_26 rfl ?_
    refine zs_get (pc := 27) dM_segmentIt_27 fM_9 (by first | exact z2_a | exact z2_1) (by rfl) ?_
    refine zs_iconst (pc := 30) dM_segmentIt_30 zi_2 ?_
    refine zn_iald (pc := 31) dM_segmentIt_31 (by first | exact z2_a | exact z2_1) (by omega) (by first | decide | assumption) ?_
    rw [e2]
    refine zs_iconst (pc := 32) dM_segmentIt_32 zi_1 ?_
    refine zn_isub (pc := 33) dM_segmentIt_33 (by omega) ?_
    rw [show g 2 + 1 - 1 = g 2 by omega]
    exact zs_iret (pc := 34) dM_segmentIt_34 rfl rfl (by omega) (by omega) (⟨rfl, rfl, rfl⟩)
theorem zjn_s {g : Nat → Nat} {s j : Nat} : zup (zjoinN g s j) (6 + 12 * j + 4) (eg g j 4 - (if s < eg g j 4 then 1 else 0)) = zjoinN g s (j + 1) := by
  funext i
  have e4 : eg g j 4 = g (6 + 12 * j + 4) := rfl
  rw [e4]
  dsimp only [zup, zjoinN]
  by_cases e : i = 6 + 12 * j + 4
  · subst e
    (repeat' split) <;> first | rfl | (exfalso; omega) | (congr 1; omega) | omega
  · rw [if_neg e]
    by_cases e2 : 6 ≤ i ∧ (i - 6) % 12 = 4 ∧ (i - 6) / 12 < j ∧ s < g i
    · rw [if_pos e2, if_pos (by omega)]
    · rw [if_neg e2, if_neg (by omega)]
theorem lp_M_joinIt {Γ : zG} {l : Launch} (hl : l.stackTraces = false) {d : Nat} (hd : 1 ≤ d) {h : zH} {n a : Nat} {g : Nat → Nat} {s3 s5 s6 s7 s8 s10 s12 s16 s17 s18 s19 s20 : Int32} {B s : Nat} (hI : IG B g) (hs : s + 1 < g 2) {FN : List Frame → Array Value → State → State → Prop} (K : Z Γ l mM_joinIt d 0 0 FN 94 [some (.ref a), some (.int (nI s)), some (.int (nI (g 0)))] [] (z2 h a (zAr 0 246 (zjoinN g s (g 0))) (zMo a s3 s5 s6 s7 s8 s10 s12 s16 s17 s18 s19 s20)) n 0 0) : ∀ i j, i + j = g 0 → Z Γ l mM_joinIt d 0 0 FN 44 [some (.ref a), some (.int (nI s)), some (.int (nI j))] [] (z2 h a (zAr 0 246 (zjoinN g s j)) (zMo a s3 s5 s6 s7 s8 s10 s12 s16 s17 s18 s19 s20)) n 0 0 := by
  have i0 := hI.1
  have i3 := hI.2.2.2.1
  intro i
  induction i with
  | zero =>
    intro j hj
    obtain rfl : j = g 0 := by omega
    have e0 := zjn_lo (g := g) (s := s) (m := g 0) (j := 0) (by decide)
    refine zs_iload_n (pc := 44) dM_joinIt_44 rfl ?_
    refine zs_aload_n (pc := 45) dM_joinIt_45 rfl ?_
    refine zs_get (pc := 46) dM_joinIt_46 fM_9 (by first | exact z2_a | exact z2_1) (by rfl) ?_
    refine zs_iconst (pc := 49) dM_joinIt_49 zi_0 ?_
    refine zn_iald (pc := 50) dM_joinIt_50 (by first | exact z2_a | exact z2_1) (by omega) (by first | decide | assumption) ?_
    rw [e0]
    refine zn_icmp_ge (pc := 51) 94 dM_joinIt_51 rfl (by omega) (by omega) (fun _ => ?_) (fun h9 => absurd h9 (by omega))
    exact K
  | succ i ih =>
    intro j hj
    have hz := ih (j + 1) (by omega)
    have e0 := zjn_lo (g := g) (s := s) (m := j) (j := 0) (by decide)
    have e4 : zjoinN g s j (6 + 12 * j + 4) = eg g j 4 := by
      have h9 := eg_jn (g := g) (s := s) (m := j) (k := j) (i := 4) (by decide)
      rw [if_neg (by omega)] at h9
      exact h9
    have h4 := (hI.2.2.2.2.2.1 j (by omega)).2.2.2.2.1
    have hst := zjn_s (g := g) (s := s) (j := j)
    refine zs_iload_n (pc := 44) dM_joinIt_44 rfl ?_
    refine zs_aload_n (pc := 45) dM_joinIt_45 rfl ?_
    refine zs_get (pc := 46) dM_joinIt_46 fM_9 (by first | exact z2_a | exact z2_1) (by rfl) ?_
    refine zs_iconst (pc := 49) dM_joinIt_49 zi_0 ?_
    refine zn_iald (pc := 50) dM_joinIt_50 (by first | exact z2_a | exact z2_1) (by omega) (by first | decide | assumption) ?_
    rw [e0]
    refine zn_icmp_ge (pc := 51) 94 dM_joinIt_51 rfl (by omega) (by omega) (fun h9 => absurd h9 (by omega)) (fun _ => ?_)
    refine zs_aload_n (pc := 54) dM_joinIt_54 rfl ?_
    refine zs_get (pc := 55) dM_joinIt_55 fM_9 (by first | exact z2_a | exact z2_1) (by rfl) ?_
    refine zs_iload_n (pc := 58) dM_joinIt_58 rfl ?_
    refine zcS1_1 (pc := 59) (d2 := d - 1) (s_M_entryAt hl) dM_joinIt_59 kM_51 mdM_entryAt msM_entryAt rfl (Nat.le_of_ble_eq_true rfl) (by omega) (by omega) (by omega) ?_
    refine zs_iconst (pc := 62) dM_joinIt_62 zi_4 ?_
    refine zn_iadd (pc := 63) dM_joinIt_63 ?_
    refine zs_dup2 (pc := 64) dM_joinIt_64 rfl rfl ?_
    refine zn_iald (pc := 65) dM_joinIt_65 (by first | exact z2_a | exact z2_1) (by omega) (by first | decide | assumption) ?_
    refine zs_aload_n (pc := 66) dM_joinIt_66 rfl ?_
    refine zs_get (pc := 67) dM_joinIt_67 fM_9 (by first | exact z2_a | exact z2_1) (by rfl) ?_
    refine zs_iload_n (pc := 70) dM_joinIt_70 rfl ?_
    refine zcS1_1 (pc := 71) (d2 := d - 1) (s_M_entryAt hl) dM_joinIt_71 kM_51 mdM_entryAt msM_entryAt rfl (Nat.le_of_ble_eq_true rfl) (by omega) (by omega) (by omega) ?_
    refine zs_iconst (pc := 74) dM_joinIt_74 zi_4 ?_
    refine zn_iadd (pc := 75) dM_joinIt_75 ?_
    refine zn_iald (pc := 76) dM_joinIt_76 (by first | exact z2_a | exact z2_1) (by omega) (by first | decide | assumption) ?_
    refine zs_iload_n (pc := 77) dM_joinIt_77 rfl ?_
    rw [e4]
    by_cases e : s < eg g j 4
    · rw [if_pos e] at hst
      refine zn_icmp_le (pc := 78) 85 dM_joinIt_78 rfl (by omega) (by omega) (fun h9 => absurd h9 (by omega)) (fun _ => ?_)
      refine zs_iconst (pc := 81) dM_joinIt_81 zi_1 ?_
      refine zs_goto (pc := 82) 86 dM_joinIt_82 rfl ?_
      refine zn_isub (pc := 86) dM_joinIt_86 (by omega) ?_
      refine zn_iast (pc := 87) dM_joinIt_87 (by first | exact z2_a | exact z2_1) (by omega) (by first | decide | assumption) ?_
      first | rw [z2_G] | rw [z2_q2] | rw [z2_q3] | rw [z2_q4] | rw [z2_q5] | rw [z2_q6] | rw [z2_q9]
      rw [hst]
      refine zn_iinc (pc := 88) (ls2 := [_, _, _]) dM_joinIt_88 rfl (Nat.le_of_ble_eq_true rfl) rfl ?_
      refine zs_goto (pc := 91) 44 dM_joinIt_91 rfl ?_
      exact hz
    · rw [if_neg e] at hst
      refine zn_icmp_le (pc := 78) 85 dM_joinIt_78 rfl (by omega) (by omega) (fun _ => ?_) (fun h9 => absurd h9 (by omega))
      refine zs_iconst (pc := 85) dM_joinIt_85 zi_0 ?_
      refine zn_isub (pc := 86) dM_joinIt_86 (by omega) ?_
      refine zn_iast (pc := 87) dM_joinIt_87 (by first | exact z2_a | exact z2_1) (by omega) (by first | decide | assumption) ?_
      first | rw [z2_G] | rw [z2_q2] | rw [z2_q3] | rw [z2_q4] | rw [z2_q5] | rw [z2_q6] | rw [z2_q9]
      rw [hst]
      refine zn_iinc (pc := 88) (ls2 := [_, _, _]) dM_joinIt_88 rfl (Nat.le_of_ble_eq_true rfl) rfl ?_
      refine zs_goto (pc := 91) 44 dM_joinIt_91 rfl ?_
      exact hz
theorem s_M_joinIt {Γ : zG} {l : Launch} (hl : l.stackTraces = false) {d : Nat} (hd : 1 ≤ d) {h : zH} {n a : Nat} {g : Nat → Nat} {s3 s5 s6 s7 s8 s10 s12 s16 s17 s18 s19 s20 : Int32} {B : Nat} (hI : IG B g) (hB : B < 2 ^ 20) (x : Int32) : zC Γ l d mM_joinIt [.ref a, .int x] (z2 h a (zAr 0 246 (g)) (zMo a s3 s5 s6 s7 s8 s10 s12 s16 s17 s18 s19 s20)) n 0 0 (zR (some (.int (zma (zopJoin g x)))) (z2 h a (zAr 0 246 ((zopJoin g x).2.2)) (zMo a s3 s5 s6 s7 (zmth s8 (zopJoin g x)) s10 s12 s16 s17 s18 s19 s20)) n) := by
  have i2 := hI.2.2.1
  have i3 := hI.2.2.2.1
  have hH : ((nI (g 2 - 1)).toInt64).toInt = ((g 2 - 1 : Nat) : Int) := nI_64 (by omega)
  unfold zopJoin
  refine zC_of (ls := [some (.ref a), some (.int x), none]) hl (by decide +kernel) rfl (Nat.le_of_ble_eq_true rfl) rfl ?_
  cases hv : zV x 0 (g 2 - 1) with
  | false =>
    rw [if_neg (by decide)]
    refine zs_iload_n (pc := 0) dM_joinIt_0 rfl ?_
    refine zs_i2l (pc := 1) dM_joinIt_1 ?_
    refine zs_lconst (pc := 2) (v := 0) dM_joinIt_2 (by decide) ?_
    refine zs_aload_n (pc := 3) dM_joinIt_3 rfl ?_
    refine zs_get (pc := 4) dM_joinIt_4 fM_9 (by first | exact z2_a | exact z2_1) (by rfl) ?_
    refine zs_iconst (pc := 7) dM_joinIt_7 zi_2 ?_
    refine zn_iald (pc := 8) dM_joinIt_8 (by first | exact z2_a | exact z2_1) (by omega) (by first | decide | assumption) ?_
    refine zs_iconst (pc := 9) dM_joinIt_9 zi_1 ?_
    refine zn_isub (pc := 10) dM_joinIt_10 (by omega) ?_
    refine zs_i2l (pc := 11) dM_joinIt_11 ?_
    refine zcS1_3 (pc := 12) (d2 := d - 1) (s_M_inV_n hl (by decide) hH hv) dM_joinIt_12 kM_55 mdM_in msM_in rfl (Nat.le_of_ble_eq_true rfl) (by omega) (by omega) (by omega) ?_
    refine zs_if_ne (pc := 15) 24 dM_joinIt_15 rfl (fun h9 => absurd h9 (by decide)) (fun _ => ?_)
    refine zs_aload_n (pc := 18) dM_joinIt_18 rfl ?_
    refine zs_iconst (pc := 19) dM_joinIt_19 zi_1 ?_
    refine zcV1_1 (pc := 20) (d2 := d - 1) (s_M_throwing hl) dM_joinIt_20 kM_90 mdM_throwing miM_throwing mvM_throwing rfl (by exact z2_a) rfl (Nat.le_of_ble_eq_true rfl) (by omega) (by omega) (by omega) ?_
    exact zs_iret (pc := 23) dM_joinIt_23 rfl rfl (by omega) (by omega) (⟨rfl, rfl, rfl⟩)
  | true =>
    rw [if_pos rfl]
    have hv9 := hv
    obtain ⟨v1, v2, v3⟩ := zV_y hv
    generalize x.toInt.toNat = s at v1 v2 v3 ⊢
    subst v3
    by_cases e : s + 1 = g 2
    · rw [if_pos e]
      refine zs_iload_n (pc := 0) dM_joinIt_0 rfl ?_
      refine zs_i2l (pc := 1) dM_joinIt_1 ?_
      refine zs_lconst (pc := 2) (v := 0) dM_joinIt_2 (by decide) ?_
      refine zs_aload_n (pc := 3) dM_joinIt_3 rfl ?_
      refine zs_get (pc := 4) dM_joinIt_4 fM_9 (by first | exact z2_a | exact z2_1) (by rfl) ?_
      refine zs_iconst (pc := 7) dM_joinIt_7 zi_2 ?_
      refine zn_iald (pc := 8) dM_joinIt_8 (by first | exact z2_a | exact z2_1) (by omega) (by first | decide | assumption) ?_
      refine zs_iconst (pc := 9) dM_joinIt_9 zi_1 ?_
      refine zn_isub (pc := 10) dM_joinIt_10 (by omega) ?_
      refine zs_i2l (pc := 11) dM_joinIt_11 ?_
      refine zcS1_3 (pc := 12) (d2 := d - 1) (s_M_inV_y hl (by decide) hH hv9) dM_joinIt_12 kM_55 mdM_in msM_in rfl (Nat.le_of_ble_eq_true rfl) (by omega) (by omega) (by omega) ?_
      refine zs_if_ne (pc := 15) 24 dM_joinIt_15 rfl (fun _ => ?_) (fun h9 => absurd h9 (by decide))
      refine zs_iload_n (pc := 24) dM_joinIt_24 rfl ?_
      refine zs_aload_n (pc := 25) dM_joinIt_25 rfl ?_
      refine zs_get (pc := 26) dM_joinIt_26 fM_9 (by first | exact z2_a | exact z2_1) (by rfl) ?_
      refine zs_iconst (pc := 29) dM_joinIt_29 zi_2 ?_
      refine zn_iald (pc := 30) dM_joinIt_30 (by first | exact z2_a | exact z2_1) (by omega) (by first | decide | assumption) ?_
      refine zs_iconst (pc := 31) dM_joinIt_31 zi_1 ?_
      refine zn_isub (pc := 32) dM_joinIt_32 (by omega) ?_
      refine zn_icmp_ne (pc := 33) 42 dM_joinIt_33 rfl (by omega) (by omega) (fun h9 => absurd h9 (by omega)) (fun _ => ?_)
      refine zs_aload_n (pc := 36) dM_joinIt_36 rfl ?_
      refine zs_iconst (pc := 37) dM_joinIt_37 zi_2 ?_
      refine zcV1_1 (pc := 38) (d2 := d - 1) (s_M_throwing hl) dM_joinIt_38 kM_90 mdM_throwing miM_throwing mvM_throwing rfl (by exact z2_a) rfl (Nat.le_of_ble_eq_true rfl) (by omega) (by omega) (by omega) ?_
      exact zs_iret (pc := 41) dM_joinIt_41 rfl rfl (by omega) (by omega) (⟨rfl, rfl, rfl⟩)
    · rw [if_neg e]
      have e2 := zjn_lo (g := g) (s := s) (m := g 0) (j := 2) (by decide)
      have e3 : zup (zjoinN g s (g 0)) 2 (g 2 - 1) = zjoin g s := zjoin_N.symm
      have e4 : zjoin g s 2 = g 2 - 1 := rfl
      have hz0 : zjoinN g s 0 = g := by
        funext j
        unfold zjoinN
        rw [if_neg (by omega)]
      have K : Z Γ l mM_joinIt d 0 0 (zFin Γ (zR (some (.int (zma (((0, g 2 - 1, zjoin g s) : zOp))))) (z2 h a (zAr 0 246 ((((0, g 2 - 1, zjoin g s) : zOp)).2.2)) (zMo a s3 s5 s6 s7 (zmth s8 (((0, g 2 - 1, zjoin g s) : zOp))) s10 s12 s16 s17 s18 s19 s20)) n) 0 0) 94 [some (.ref a), some (.int (nI s)), some (.int (nI (g 0)))] [] (z2 h a (zAr 0 246 (zjoinN g s (g 0))) (zMo a s3 s5 s6 s7 s8 s10 s12 s16 s17 s18 s19 s20)) n 0 0 := by
        refine zs_aload_n (pc := 94) dM_joinIt_94 rfl ?_
        refine zs_get (pc := 95) dM_joinIt_95 fM_9 (by first | exact z2_a | exact z2_1) (by rfl) ?_
        refine zs_iconst (pc := 98) dM_joinIt_98 zi_2 ?_
        refine zs_dup2 (pc := 99) dM_joinIt_99 rfl rfl ?_
        refine zn_iald (pc := 100) dM_joinIt_100 (by first | exact z2_a | exact z2_1) (by omega) (by first | decide | assumption) ?_
        rw [e2]
        refine zs_iconst (pc := 101) dM_joinIt_101 zi_1 ?_
        refine zn_isub (pc := 102) dM_joinIt_102 (by omega) ?_
        refine zn_iast (pc := 103) dM_joinIt_103 (by first | exact z2_a | exact z2_1) (by omega) (by first | decide | assumption) ?_
        first | rw [z2_G] | rw [z2_q2] | rw [z2_q3] | rw [z2_q4] | rw [z2_q5] | rw [z2_q6] | rw [z2_q9]
        rw [e3]
        refine zs_aload_n (pc := 104) dM_joinIt_104 rfl ?_
        refine zs_get (pc := 105) dM_joinIt_105 fM_9 (by first | exact z2_a | exact z2_1) (by rfl) ?_
        refine zs_iconst (pc := 108) dM_joinIt_108 zi_2 ?_
        refine zn_iald (pc := 109) dM_joinIt_109 (by first | exact z2_a | exact z2_1) (by omega) (by first | decide | assumption) ?_
        rw [e4]
        exact zs_iret (pc := 110) dM_joinIt_110 rfl rfl (by omega) (by omega) (⟨rfl, rfl, rfl⟩)
      have h9 := lp_M_joinIt (Γ := Γ) (l := l) hl (d := d) hd hI (s := s) (by omega) K (g 0) 0 rfl
      rw [hz0] at h9
      refine zs_iload_n (pc := 0) dM_joinIt_0 rfl ?_
      refine zs_i2l (pc := 1) dM_joinIt_1 ?_
      refine zs_lconst (pc := 2) (v := 0) dM_joinIt_2 (by decide) ?_
      refine zs_aload_n (pc := 3) dM_joinIt_3 rfl ?_
      refine zs_get (pc := 4) dM_joinIt_4 fM_9 (by first | exact z2_a | exact z2_1) (by rfl) ?_
      refine zs_iconst (pc := 7) dM_joinIt_7 zi_2 ?_
      refine zn_iald (pc := 8) dM_joinIt_8 (by first | exact z2_a | exact z2_1) (by omega) (by first | decide | assumption) ?_
      refine zs_iconst (pc := 9) dM_joinIt_9 zi_1 ?_
      refine zn_isub (pc := 10) dM_joinIt_10 (by omega) ?_
      refine zs_i2l (pc := 11) dM_joinIt_11 ?_
      refine zcS1_3 (pc := 12) (d2 := d - 1) (s_M_inV_y hl (by decide) hH hv9) dM_joinIt_12 kM_55 mdM_in msM_in rfl (Nat.le_of_ble_eq_true rfl) (by omega) (by omega) (by omega) ?_
      refine zs_if_ne (pc := 15) 24 dM_joinIt_15 rfl (fun _ => ?_) (fun h9 => absurd h9 (by decide))
      refine zs_iload_n (pc := 24) dM_joinIt_24 rfl ?_
      refine zs_aload_n (pc := 25) dM_joinIt_25 rfl ?_
      refine zs_get (pc := 26) dM_joinIt_26 fM_9 (by first | exact z2_a | exact z2_1) (by rfl) ?_
      refine zs_iconst (pc := 29) dM_joinIt_29 zi_2 ?_
      refine zn_iald (pc := 30) dM_joinIt_30 (by first | exact z2_a | exact z2_1) (by omega) (by first | decide | assumption) ?_
      refine zs_iconst (pc := 31) dM_joinIt_31 zi_1 ?_
      refine zn_isub (pc := 32) dM_joinIt_32 (by omega) ?_
      refine zn_icmp_ne (pc := 33) 42 dM_joinIt_33 rfl (by omega) (by omega) (fun _ => ?_) (fun h9 => absurd h9 (by omega))
      refine zs_iconst (pc := 42) dM_joinIt_42 zi_0 ?_
      refine zs_istore_n (pc := 43) (ls2 := [_, _, _]) dM_joinIt_43 (Nat.le_of_ble_eq_true rfl) rfl ?_
      exact h9
theorem zhit_s0 {g : Nat → Nat} {dn v j : Nat} (h : ¬ 0 < zmany (eg g j) dn v) : zhitN g dn v j = zhitN g dn v (j + 1) := by
  funext i
  unfold zhitN
  by_cases e : 6 ≤ i ∧ (i - 6) / 12 < j ∧ 0 < zmany (eg g ((i - 6) / 12)) dn v
  · have e' : 6 ≤ i ∧ (i - 6) / 12 < j + 1 ∧ 0 < zmany (eg g ((i - 6) / 12)) dn v := ⟨e.1, by omega, e.2.2⟩
    rw [if_pos e, if_pos e']
  · rw [if_neg e, if_neg (fun q => by
      by_cases e2 : (i - 6) / 12 = j
      · rw [e2] at q
        exact h q.2.2
      · exact e ⟨q.1, by omega, q.2.2⟩)]
theorem zhit_s1 {g : Nat → Nat} {dn v j : Nat} (h : 0 < zmany (eg g j) dn v) : zup (zup (zhitN g dn v j) (6 + 12 * j + 2) 0) (6 + 12 * j + 3) (eg g j 3 + 1) = zhitN g dn v (j + 1) := by
  funext i
  have e3 : eg g j 3 = g (6 + 12 * j + 3) := rfl
  rw [e3]
  dsimp only [zup, zhitN]
  by_cases e : (i - 6) / 12 = j ∧ 6 ≤ i
  · have e9 : ¬ (6 ≤ i ∧ (i - 6) / 12 < j ∧ 0 < zmany (eg g ((i - 6) / 12)) dn v) := fun q => by omega
    have e8 : 6 ≤ i ∧ (i - 6) / 12 < j + 1 ∧ 0 < zmany (eg g ((i - 6) / 12)) dn v := ⟨e.2, by omega, by rw [e.1]; exact h⟩
    rw [if_neg e9, if_pos e8]
    by_cases a2 : i = 6 + 12 * j + 3
    · subst a2
      (repeat' split) <;> first | rfl | (exfalso; omega) | (congr 1; omega) | omega
    · (repeat' split) <;> first | rfl | (exfalso; omega) | (congr 1; omega) | omega
  · rw [if_neg (by omega), if_neg (by omega)]
    by_cases e9 : 6 ≤ i ∧ (i - 6) / 12 < j ∧ 0 < zmany (eg g ((i - 6) / 12)) dn v
    · have e' : 6 ≤ i ∧ (i - 6) / 12 < j + 1 ∧ 0 < zmany (eg g ((i - 6) / 12)) dn v := ⟨e9.1, by omega, e9.2.2⟩
      rw [if_pos e9, if_pos e']
    · rw [if_neg e9, if_neg (fun q => e9 ⟨q.1, by omega, q.2.2⟩)]
theorem zhit_eg {g : Nat → Nat} {dn v j : Nat} : ∀ i, i < 12 → eg (zhitN g dn v j) j i = eg g j i := fun i hi => by
  rw [eg_hit hi, if_neg (by omega)]
theorem zmany_eq {q q2 : Nat → Nat} {dn v : Nat} (h : ∀ i, i < 12 → q i = q2 i) (h5 : q2 5 ≤ 6) : zmany q dn v = zmany q2 dn v := zAg.many (fun i hi => h i (by omega)) dn v
theorem lp_M_searchIt {Γ : zG} {l : Launch} (hl : l.stackTraces = false) {d : Nat} (hd : 4 ≤ d) {h : zH} {n a : Nat} {g : Nat → Nat} {s3 s5 s6 s7 s8 s10 s12 s16 s17 s18 s19 s20 : Int32} {B dn v : Nat} (hI : IG B g) (hB : B < 2 ^ 20) (h1 : dn ≤ 3) (hv : v < 2 ^ 31) : ∀ i j, i + j = g 0 → Z Γ l mM_searchIt d 0 0 (zFin Γ (zR (some (.int (nI (zres g dn v)))) (z2 h a (zAr 0 246 (zhit g dn v)) (zMo a s3 s5 s6 s7 s8 s10 s12 s16 s17 s18 s19 s20)) n) 0 0) 20 [some (.ref a), some (.int (nI dn)), some (.int (nI v)), some (.int (nI (zcnt (fun k => decide (0 < zmany (eg g k) dn v)) j))), some (.int (nI j))] [] (z2 h a (zAr 0 246 (zhitN g dn v j)) (zMo a s3 s5 s6 s7 s8 s10 s12 s16 s17 s18 s19 s20)) n 0 0 := by
  have i0 := hI.1
  intro i
  induction i with
  | zero =>
    intro j hj
    obtain rfl : j = g 0 := by omega
    have e0 := zhitN_lo (g := g) (dn := dn) (v := v) (m := g 0) (j := 0) (by decide)
    refine zs_iload (pc := 20) dM_searchIt_20 rfl ?_
    refine zs_aload_n (pc := 22) dM_searchIt_22 rfl ?_
    refine zs_get (pc := 23) dM_searchIt_23 fM_9 (by first | exact z2_a | exact z2_1) (by rfl) ?_
    refine zs_iconst (pc := 26) dM_searchIt_26 zi_0 ?_
    refine zn_iald (pc := 27) dM_searchIt_27 (by first | exact z2_a | exact z2_1) (by omega) (by first | decide | assumption) ?_
    rw [e0]
    refine zn_icmp_ge (pc := 28) 80 dM_searchIt_28 rfl (by omega) (by omega) (fun _ => ?_) (fun h9 => absurd h9 (by omega))
    refine zs_iload_n (pc := 80) dM_searchIt_80 rfl ?_
    rw [← zhit_N]
    exact zs_iret (pc := 81) dM_searchIt_81 rfl rfl (by omega) (by omega) (⟨rfl, rfl, rfl⟩)
  | succ i ih =>
    intro j hj
    have hz := ih (j + 1) (by omega)
    have e0 := zhitN_lo (g := g) (dn := dn) (v := v) (m := j) (j := 0) (by decide)
    have h5 := hI.s6 j (by omega)
    have hc := hI.c (k := j) (by omega)
    have he5 := zhit_eg (g := g) (dn := dn) (v := v) (j := j)
    have hm := zmany_eq (dn := dn) (v := v) he5 h5
    have hm6 : zmany (eg g j) dn v ≤ eg g j 5 := zcnt_le _ _
    have hb3 := (hI.b hB (j := j) (by omega)).2.2.2.1
    have er : zup (zhitN g dn v j) (6 + 12 * j + 2) 0 (6 + 12 * j + 3) = eg g j 3 := by
      rw [zup_n (by omega)]
      exact he5 3 (by decide)
    refine zs_iload (pc := 20) dM_searchIt_20 rfl ?_
    refine zs_aload_n (pc := 22) dM_searchIt_22 rfl ?_
    refine zs_get (pc := 23) dM_searchIt_23 fM_9 (by first | exact z2_a | exact z2_1) (by rfl) ?_
    refine zs_iconst (pc := 26) dM_searchIt_26 zi_0 ?_
    refine zn_iald (pc := 27) dM_searchIt_27 (by first | exact z2_a | exact z2_1) (by omega) (by first | decide | assumption) ?_
    rw [e0]
    refine zn_icmp_ge (pc := 28) 80 dM_searchIt_28 rfl (by omega) (by omega) (fun h9 => absurd h9 (by omega)) (fun _ => ?_)
    refine zs_aload_n (pc := 31) dM_searchIt_31 rfl ?_
    refine zs_iload (pc := 32) dM_searchIt_32 rfl ?_
    refine zs_iload_n (pc := 34) dM_searchIt_34 rfl ?_
    refine zs_iload_n (pc := 35) dM_searchIt_35 rfl ?_
    refine zcV1_3 (pc := 36) (d2 := d - 1) (s_M_many hl (by omega) (by omega) (by rw [he5 5 (by decide)]; exact h5) (fun i hi => by rw [he5 5 (by decide)] at hi; rw [he5 _ (by omega)]; exact hc i hi) h1 hv) dM_searchIt_36 kM_70 mdM_many miM_many mvM_many rfl (by exact z2_a) rfl (Nat.le_of_ble_eq_true rfl) (by omega) (by omega) (by omega) ?_
    rw [hm]
    by_cases e : 0 < zmany (eg g j) dn v
    · rw [zcnt_t (p := fun k => decide (0 < zmany (eg g k) dn v)) (decide_eq_true e)] at hz
      refine zn_if_le (pc := 39) 74 dM_searchIt_39 rfl (by omega) (fun h9 => absurd h9 (by omega)) (fun _ => ?_)
      refine zs_aload_n (pc := 42) dM_searchIt_42 rfl ?_
      refine zs_get (pc := 43) dM_searchIt_43 fM_9 (by first | exact z2_a | exact z2_1) (by rfl) ?_
      refine zs_iload (pc := 46) dM_searchIt_46 rfl ?_
      refine zcS1_1 (pc := 48) (d2 := d - 1) (s_M_entryAt hl) dM_searchIt_48 kM_51 mdM_entryAt msM_entryAt rfl (Nat.le_of_ble_eq_true rfl) (by omega) (by omega) (by omega) ?_
      refine zs_iconst (pc := 51) dM_searchIt_51 zi_2 ?_
      refine zn_iadd (pc := 52) dM_searchIt_52 ?_
      refine zs_iconst (pc := 53) dM_searchIt_53 zi_0 ?_
      refine zn_iast (pc := 54) dM_searchIt_54 (by first | exact z2_a | exact z2_1) (by omega) (by first | decide | assumption) ?_
      first | rw [z2_G] | rw [z2_q2] | rw [z2_q3] | rw [z2_q4] | rw [z2_q5] | rw [z2_q6] | rw [z2_q9]
      refine zs_aload_n (pc := 55) dM_searchIt_55 rfl ?_
      refine zs_get (pc := 56) dM_searchIt_56 fM_9 (by first | exact z2_a | exact z2_1) (by rfl) ?_
      refine zs_iload (pc := 59) dM_searchIt_59 rfl ?_
      refine zcS1_1 (pc := 61) (d2 := d - 1) (s_M_entryAt hl) dM_searchIt_61 kM_51 mdM_entryAt msM_entryAt rfl (Nat.le_of_ble_eq_true rfl) (by omega) (by omega) (by omega) ?_
      refine zs_iconst (pc := 64) dM_searchIt_64 zi_3 ?_
      refine zn_iadd (pc := 65) dM_searchIt_65 ?_
      refine zs_dup2 (pc := 66) dM_searchIt_66 rfl rfl ?_
      refine zn_iald (pc := 67) dM_searchIt_67 (by first | exact z2_a | exact z2_1) (by omega) (by first | decide | assumption) ?_
      rw [er]
      refine zs_iconst (pc := 68) dM_searchIt_68 zi_1 ?_
      refine zn_iadd (pc := 69) dM_searchIt_69 ?_
      refine zn_iast (pc := 70) dM_searchIt_70 (by first | exact z2_a | exact z2_1) (by omega) (by first | decide | assumption) ?_
      first | rw [z2_G] | rw [z2_q2] | rw [z2_q3] | rw [z2_q4] | rw [z2_q5] | rw [z2_q6] | rw [z2_q9]
      rw [zhit_s1 e]
      refine zn_iinc (pc := 71) (ls2 := [_, _, _, _, _]) dM_searchIt_71 rfl (Nat.le_of_ble_eq_true rfl) rfl ?_
      refine zn_iinc (pc := 74) (ls2 := [_, _, _, _, _]) dM_searchIt_74 rfl (Nat.le_of_ble_eq_true rfl) rfl ?_
      refine zs_goto (pc := 77) 20 dM_searchIt_77 rfl ?_
      exact hz
    · rw [zcnt_f (p := fun k => decide (0 < zmany (eg g k) dn v)) (decide_eq_false e), ← zhit_s0 e] at hz
      refine zn_if_le (pc := 39) 74 dM_searchIt_39 rfl (by omega) (fun _ => ?_) (fun h9 => absurd h9 (by omega))
      refine zn_iinc (pc := 74) (ls2 := [_, _, _, _, _]) dM_searchIt_74 rfl (Nat.le_of_ble_eq_true rfl) rfl ?_
      refine zs_goto (pc := 77) 20 dM_searchIt_77 rfl ?_
      exact hz
theorem s_M_searchIt {Γ : zG} {l : Launch} (hl : l.stackTraces = false) {d : Nat} (hd : 4 ≤ d) {h : zH} {n a : Nat} {g : Nat → Nat} {s3 s5 s6 s7 s8 s10 s12 s16 s17 s18 s19 s20 : Int32} {B : Nat} (hI : IG B g) (hB : B < 2 ^ 20) (x y : Int32) : zC Γ l d mM_searchIt [.ref a, .int x, .int y] (z2 h a (zAr 0 246 (g)) (zMo a s3 s5 s6 s7 s8 s10 s12 s16 s17 s18 s19 s20)) n 0 0 (zR (some (.int (zma (zopFind g x y)))) (z2 h a (zAr 0 246 ((zopFind g x y).2.2)) (zMo a s3 s5 s6 s7 (zmth s8 (zopFind g x y)) s10 s12 s16 s17 s18 s19 s20)) n) := by
  unfold zopFind
  refine zC_of (ls := [some (.ref a), some (.int x), some (.int y), none, none]) hl (by decide +kernel) rfl (Nat.le_of_ble_eq_true rfl) rfl ?_
  cases hv : zPv x y with
  | false =>
    rw [if_neg (by decide)]
    have hv2 := zPv_n hv
    refine zs_iload_n (pc := 0) dM_searchIt_0 rfl ?_
    refine zs_iload_n (pc := 1) dM_searchIt_1 rfl ?_
    refine zs_iconst (pc := 2) dM_searchIt_2 zi_3 ?_
    refine zcS1_3 (pc := 3) (d2 := d - 1) (s_M_isPrefix_n hl (by omega) (fun ⟨a1, a2, a3, _⟩ => hv2 ⟨a1, a2, a3⟩) (by decide)) dM_searchIt_3 kM_143 mdM_isPrefix msM_isPrefix rfl (Nat.le_of_ble_eq_true rfl) (by omega) (by omega) (by omega) ?_
    refine zs_if_ne (pc := 6) 15 dM_searchIt_6 rfl (fun h9 => absurd h9 (by decide)) (fun _ => ?_)
    refine zs_aload_n (pc := 9) dM_searchIt_9 rfl ?_
    refine zs_iconst (pc := 10) dM_searchIt_10 zi_1 ?_
    refine zcV1_1 (pc := 11) (d2 := d - 1) (s_M_throwing hl) dM_searchIt_11 kM_90 mdM_throwing miM_throwing mvM_throwing rfl (by exact z2_a) rfl (Nat.le_of_ble_eq_true rfl) (by omega) (by omega) (by omega) ?_
    exact zs_iret (pc := 14) dM_searchIt_14 rfl rfl (by omega) (by omega) (⟨rfl, rfl, rfl⟩)
  | true =>
    rw [if_pos rfl]
    have hv2 := zPv_y hv
    generalize x.toInt.toNat = dn at hv2 ⊢
    generalize y.toInt.toNat = v at hv2 ⊢
    have hv3 := hv2
    obtain ⟨rfl, rfl, q1, q2⟩ := hv3
    have h3 := z10 q1
    have hz0 : zhitN g dn v 0 = g := by
      funext j
      unfold zhitN
      rw [if_neg (by omega)]
    have h9 := lp_M_searchIt (Γ := Γ) (l := l) (h := h) (n := n) (a := a) (s3 := s3) (s5 := s5) (s6 := s6) (s7 := s7) (s8 := s8) (s10 := s10) (s12 := s12) (s16 := s16) (s17 := s17) (s18 := s18) (s19 := s19) (s20 := s20) hl (d := d) hd hI hB q1 (by omega : v < 2 ^ 31) (g 0) 0 rfl
    rw [hz0] at h9
    refine zs_iload_n (pc := 0) dM_searchIt_0 rfl ?_
    refine zs_iload_n (pc := 1) dM_searchIt_1 rfl ?_
    refine zs_iconst (pc := 2) dM_searchIt_2 zi_3 ?_
    refine zcS1_3 (pc := 3) (d2 := d - 1) (s_M_isPrefix_y hl (by omega) hv2 q1 (by decide)) dM_searchIt_3 kM_143 mdM_isPrefix msM_isPrefix rfl (Nat.le_of_ble_eq_true rfl) (by omega) (by omega) (by omega) ?_
    refine zs_if_ne (pc := 6) 15 dM_searchIt_6 rfl (fun _ => ?_) (fun h9 => absurd h9 (by decide))
    refine zs_iconst (pc := 15) dM_searchIt_15 zi_0 ?_
    refine zs_istore_n (pc := 16) (ls2 := [_, _, _, _, _]) dM_searchIt_16 (Nat.le_of_ble_eq_true rfl) rfl ?_
    refine zs_iconst (pc := 17) dM_searchIt_17 zi_0 ?_
    refine zs_istore (pc := 18) (ls2 := [_, _, _, _, _]) dM_searchIt_18 (Nat.le_of_ble_eq_true rfl) rfl ?_
    exact h9

