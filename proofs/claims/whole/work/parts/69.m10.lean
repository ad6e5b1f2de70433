/-! the model's question for the entry most like another -/
theorem zbs_no {g : Nat → Nat} {k : Nat} : ∀ j, (∀ i, i < j → i = k) → zbs g k j = 0 := by
  intro j
  induction j with
  | zero => intro _; rfl
  | succ j ih =>
    intro h
    have e := h j (by omega)
    unfold zbs
    rw [if_neg (fun q => q.1 e)]
    exact ih (fun i hi => h i (by omega))
theorem zbs_yes {g : Nat → Nat} {k : Nat} : ∀ j i, i < j → i ≠ k → zbs g k j ≠ 0 := by
  intro j
  induction j with
  | zero => intro i hi; omega
  | succ j ih =>
    intro i hi hik
    unfold zbs
    by_cases e : j ≠ k ∧ (zbs g k j = 0 ∨ zshare (eg g k) (eg g (zbs g k j - 1)) < zshare (eg g k) (eg g j))
    · rw [if_pos e]; omega
    · rw [if_neg e]
      by_cases e2 : i = j
      · subst e2
        intro q
        exact e ⟨hik, Or.inl q⟩
      · exact ih i (by omega) hik
theorem lp_M_mostSimilar {Γ : zG} {l : Launch} (hl : l.stackTraces = false) {d : Nat} (hd : 5 ≤ d) {h : zH} {n a : Nat} {g : Nat → Nat} {s3 s5 s6 s7 s8 s10 s12 s16 s17 s18 s19 s20 : Int32} {B k : Nat} {y : Int32} {FN : List Frame → Array Value → State → State → Prop} (hI : IG B g) (hk : k < g 0) (K : ∀ x5, Z Γ l mM_mostSimilar d 0 0 FN 100 [some (.ref a), some (.int y), some (.int (nI k)), some (.int (zpre (zbs g k (g 0)))), some (.int (nI (g 0))), x5] [] (z2 h a (zAr 0 246 (g)) (zMo a s3 s5 s6 s7 (nI 0) s10 s12 s16 s17 s18 s19 s20)) n 0 0) : ∀ i j, i + j = g 0 → ∀ x5, Z Γ l mM_mostSimilar d 0 0 FN 37 [some (.ref a), some (.int y), some (.int (nI k)), some (.int (zpre (zbs g k j))), some (.int (nI j)), x5] [] (z2 h a (zAr 0 246 (g)) (zMo a s3 s5 s6 s7 (nI 0) s10 s12 s16 s17 s18 s19 s20)) n 0 0 := by
  have i0 := hI.1
  intro i
  induction i with
  | zero =>
    intro j hj x5
    obtain rfl : j = g 0 := by omega
    refine zs_iload (pc := 37) dM_mostSimilar_37 rfl ?_
    refine zs_aload_n (pc := 39) dM_mostSimilar_39 rfl ?_
    refine zs_get (pc := 40) dM_mostSimilar_40 fM_9 (by first | exact z2_a | exact z2_1) (by rfl) ?_
    refine zs_iconst (pc := 43) dM_mostSimilar_43 zi_0 ?_
    refine zn_iald (pc := 44) dM_mostSimilar_44 (by first | exact z2_a | exact z2_1) (by omega) (by first | decide | assumption) ?_
    refine zn_icmp_ge (pc := 45) 100 dM_mostSimilar_45 rfl (by omega) (by omega) (fun _ => ?_) (fun h9 => absurd h9 (by omega))
    exact K _
  | succ i ih =>
    intro j hj x5
    have hz := ih (j + 1) (by omega)
    have hb9 := zbs_le (g := g) (k := k) j
    have hs1 : zshare (eg g k) (eg g j) ≤ eg g k 5 := zcnt_le _ _
    have hs2 : zshare (eg g k) (eg g (zbs g k j - 1)) ≤ eg g k 5 := zcnt_le _ _
    have h6 := hI.s6 k hk
    have hbs : zbs g k (j + 1) = if j ≠ k ∧ (zbs g k j = 0 ∨ zshare (eg g k) (eg g (zbs g k j - 1)) < zshare (eg g k) (eg g j)) then j + 1 else zbs g k j := rfl
    have no : ¬ (j ≠ k ∧ (zbs g k j = 0 ∨ zshare (eg g k) (eg g (zbs g k j - 1)) < zshare (eg g k) (eg g j))) → Z Γ l mM_mostSimilar d 0 0 FN 79 [some (.ref a), some (.int y), some (.int (nI k)), some (.int (zpre (zbs g k j))), some (.int (nI j)), x5] [] (z2 h a (zAr 0 246 (g)) (zMo a s3 s5 s6 s7 (nI 0) s10 s12 s16 s17 s18 s19 s20)) n 0 0 := fun q => by
      rw [hbs, if_neg q] at hz
      refine zs_iconst (pc := 79) dM_mostSimilar_79 zi_0 ?_
      refine zs_istore (pc := 80) (ls2 := [_, _, _, _, _, _]) dM_mostSimilar_80 (Nat.le_of_ble_eq_true rfl) rfl ?_
      refine zs_iload (pc := 82) dM_mostSimilar_82 rfl ?_
      refine zn_if_eq (pc := 84) 92 dM_mostSimilar_84 rfl (by omega) (fun _ => ?_) (fun h9 => absurd h9 (by decide))
      refine zs_iload_n (pc := 92) dM_mostSimilar_92 rfl ?_
      refine zs_istore_n (pc := 93) (ls2 := [_, _, _, _, _, _]) dM_mostSimilar_93 (Nat.le_of_ble_eq_true rfl) rfl ?_
      refine zn_iinc (pc := 94) (ls2 := [_, _, _, _, _, _]) dM_mostSimilar_94 rfl (Nat.le_of_ble_eq_true rfl) rfl ?_
      refine zs_goto (pc := 97) 37 dM_mostSimilar_97 rfl ?_
      exact hz _
    have yes : (j ≠ k ∧ (zbs g k j = 0 ∨ zshare (eg g k) (eg g (zbs g k j - 1)) < zshare (eg g k) (eg g j))) → Z Γ l mM_mostSimilar d 0 0 FN 75 [some (.ref a), some (.int y), some (.int (nI k)), some (.int (zpre (zbs g k j))), some (.int (nI j)), x5] [] (z2 h a (zAr 0 246 (g)) (zMo a s3 s5 s6 s7 (nI 0) s10 s12 s16 s17 s18 s19 s20)) n 0 0 := fun q => by
      rw [hbs, if_pos q] at hz
      have ep : zpre (j + 1) = nI j := by
        unfold zpre
        rw [if_neg (by omega)]
        rfl
      rw [ep] at hz
      refine zs_iconst (pc := 75) dM_mostSimilar_75 zi_1 ?_
      refine zs_goto (pc := 76) 80 dM_mostSimilar_76 rfl ?_
      refine zs_istore (pc := 80) (ls2 := [_, _, _, _, _, _]) dM_mostSimilar_80 (Nat.le_of_ble_eq_true rfl) rfl ?_
      refine zs_iload (pc := 82) dM_mostSimilar_82 rfl ?_
      refine zn_if_eq (pc := 84) 92 dM_mostSimilar_84 rfl (by omega) (fun h9 => absurd h9 (by decide)) (fun _ => ?_)
      refine zs_iload (pc := 87) dM_mostSimilar_87 rfl ?_
      refine zs_goto (pc := 89) 93 dM_mostSimilar_89 rfl ?_
      refine zs_istore_n (pc := 93) (ls2 := [_, _, _, _, _, _]) dM_mostSimilar_93 (Nat.le_of_ble_eq_true rfl) rfl ?_
      refine zn_iinc (pc := 94) (ls2 := [_, _, _, _, _, _]) dM_mostSimilar_94 rfl (Nat.le_of_ble_eq_true rfl) rfl ?_
      refine zs_goto (pc := 97) 37 dM_mostSimilar_97 rfl ?_
      exact hz _
    by_cases ejk : j = k
    · refine zs_iload (pc := 37) dM_mostSimilar_37 rfl ?_
      refine zs_aload_n (pc := 39) dM_mostSimilar_39 rfl ?_
      refine zs_get (pc := 40) dM_mostSimilar_40 fM_9 (by first | exact z2_a | exact z2_1) (by rfl) ?_
      refine zs_iconst (pc := 43) dM_mostSimilar_43 zi_0 ?_
      refine zn_iald (pc := 44) dM_mostSimilar_44 (by first | exact z2_a | exact z2_1) (by omega) (by first | decide | assumption) ?_
      refine zn_icmp_ge (pc := 45) 100 dM_mostSimilar_45 rfl (by omega) (by omega) (fun h9 => absurd h9 (by omega)) (fun _ => ?_)
      refine zs_iload (pc := 48) dM_mostSimilar_48 rfl ?_
      refine zs_iload_n (pc := 50) dM_mostSimilar_50 rfl ?_
      refine zn_icmp_eq (pc := 51) 79 dM_mostSimilar_51 rfl (by omega) (by omega) (fun _ => ?_) (fun h9 => absurd h9 (fun q => q ejk))
      exact no (fun q => q.1 ejk)
    · refine zs_iload (pc := 37) dM_mostSimilar_37 rfl ?_
      refine zs_aload_n (pc := 39) dM_mostSimilar_39 rfl ?_
      refine zs_get (pc := 40) dM_mostSimilar_40 fM_9 (by first | exact z2_a | exact z2_1) (by rfl) ?_
      refine zs_iconst (pc := 43) dM_mostSimilar_43 zi_0 ?_
      refine zn_iald (pc := 44) dM_mostSimilar_44 (by first | exact z2_a | exact z2_1) (by omega) (by first | decide | assumption) ?_
      refine zn_icmp_ge (pc := 45) 100 dM_mostSimilar_45 rfl (by omega) (by omega) (fun h9 => absurd h9 (by omega)) (fun _ => ?_)
      refine zs_iload (pc := 48) dM_mostSimilar_48 rfl ?_
      refine zs_iload_n (pc := 50) dM_mostSimilar_50 rfl ?_
      refine zn_icmp_eq (pc := 51) 79 dM_mostSimilar_51 rfl (by omega) (by omega) (fun h9 => absurd h9 (ejk)) (fun _ => ?_)
      refine zs_iload_n (pc := 54) dM_mostSimilar_54 rfl ?_
      refine zs_iconst (pc := 55) dM_mostSimilar_55 zi_m1 ?_
      by_cases eb : zbs g k j = 0
      · have ep : zpre (zbs g k j) = -1 := if_pos eb
        have y2 := yes ⟨ejk, Or.inl eb⟩
        rw [ep] at y2 ⊢
        refine zs_icmp_eq (pc := 56) 75 dM_mostSimilar_56 rfl (fun _ => ?_) (fun h9 => absurd h9 (fun q => q rfl))
        exact y2
      · have ep : zpre (zbs g k j) = nI (zbs g k j - 1) := if_neg eb
        by_cases ec : zshare (eg g k) (eg g (zbs g k j - 1)) < zshare (eg g k) (eg g j)
        · have y2 := yes ⟨ejk, Or.inr ec⟩
          rw [ep] at y2 ⊢
          refine zs_icmp_eq (pc := 56) 75 dM_mostSimilar_56 rfl (fun h9 => absurd h9 (nI_kn (by omega))) (fun _ => ?_)
          refine zs_aload_n (pc := 59) dM_mostSimilar_59 rfl ?_
          refine zs_iload_n (pc := 60) dM_mostSimilar_60 rfl ?_
          refine zs_iload (pc := 61) dM_mostSimilar_61 rfl ?_
          refine zcV1_2 (pc := 63) (d2 := d - 1) (s_M_common hl (by omega) hI hk (by omega)) dM_mostSimilar_63 kM_127 mdM_common miM_common mvM_common rfl (by exact z2_a) rfl (Nat.le_of_ble_eq_true rfl) (by omega) (by omega) (by omega) ?_
          refine zs_aload_n (pc := 66) dM_mostSimilar_66 rfl ?_
          refine zs_iload_n (pc := 67) dM_mostSimilar_67 rfl ?_
          refine zs_iload_n (pc := 68) dM_mostSimilar_68 rfl ?_
          refine zcV1_2 (pc := 69) (d2 := d - 1) (s_M_common hl (by omega) hI hk (by omega)) dM_mostSimilar_69 kM_127 mdM_common miM_common mvM_common rfl (by exact z2_a) rfl (Nat.le_of_ble_eq_true rfl) (by omega) (by omega) (by omega) ?_
          refine zn_icmp_le (pc := 72) 79 dM_mostSimilar_72 rfl (by omega) (by omega) (fun h9 => absurd h9 (by omega)) (fun _ => ?_)
          exact y2
        · have y2 := no (by rintro ⟨-, q | q⟩; exact eb q; exact ec q)
          rw [ep] at y2 ⊢
          refine zs_icmp_eq (pc := 56) 75 dM_mostSimilar_56 rfl (fun h9 => absurd h9 (nI_kn (by omega))) (fun _ => ?_)
          refine zs_aload_n (pc := 59) dM_mostSimilar_59 rfl ?_
          refine zs_iload_n (pc := 60) dM_mostSimilar_60 rfl ?_
          refine zs_iload (pc := 61) dM_mostSimilar_61 rfl ?_
          refine zcV1_2 (pc := 63) (d2 := d - 1) (s_M_common hl (by omega) hI hk (by omega)) dM_mostSimilar_63 kM_127 mdM_common miM_common mvM_common rfl (by exact z2_a) rfl (Nat.le_of_ble_eq_true rfl) (by omega) (by omega) (by omega) ?_
          refine zs_aload_n (pc := 66) dM_mostSimilar_66 rfl ?_
          refine zs_iload_n (pc := 67) dM_mostSimilar_67 rfl ?_
          refine zs_iload_n (pc := 68) dM_mostSimilar_68 rfl ?_
          refine zcV1_2 (pc := 69) (d2 := d - 1) (s_M_common hl (by omega) hI hk (by omega)) dM_mostSimilar_69 kM_127 mdM_common miM_common mvM_common rfl (by exact z2_a) rfl (Nat.le_of_ble_eq_true rfl) (by omega) (by omega) (by omega) ?_
          refine zn_icmp_le (pc := 72) 79 dM_mostSimilar_72 rfl (by omega) (by omega) (fun _ => ?_) (fun h9 => absurd h9 (by omega))
          exact y2
theorem s_M_mostSimilar {Γ : zG} {l : Launch} (hl : l.stackTraces = false) {d : Nat} (hd : 5 ≤ d) {h : zH} {n a : Nat} {g : Nat → Nat} {s3 s5 s6 s7 s8 s10 s12 s16 s17 s18 s19 s20 : Int32} {B : Nat} (hI : IG B g) (y : Int32) : zC Γ l d mM_mostSimilar [.ref a, .int y] (z2 h a (zAr 0 246 (g)) (zMo a s3 s5 s6 s7 s8 s10 s12 s16 s17 s18 s19 s20)) n 0 0 (zR (some (.int (aSim g y).2)) (z2 h a (zAr 0 246 (g)) (zMo a s3 s5 s6 s7 (nI (aSim g y).1) s10 s12 s16 s17 s18 s19 s20)) n) := by
  have i0 := hI.1
  unfold aSim
  refine zC_of (ls := [some (.ref a), some (.int y), none, none, none, none]) hl (by decide +kernel) rfl (Nat.le_of_ble_eq_true rfl) rfl ?_
  cases hH : zHas g y with
  | false =>
    rw [if_neg (by decide)]
    refine zs_aload_n (pc := 0) dM_mostSimilar_0 rfl ?_
    refine zs_iconst (pc := 1) dM_mostSimilar_1 zi_0 ?_
    refine zs_put (pc := 2) (fs2 := [_, _, _, _, _, _, _, _, _, _, _, _, _, _, _, _, _, _, _, _, _]) dM_mostSimilar_2 fM_45 (by first | exact z2_a | exact z2_1) (by rfl) (by rfl) (by exact Nat.le_of_ble_eq_true rfl) (by rfl) ?_
    rw [z2_O]
    refine zs_aload_n (pc := 5) dM_mostSimilar_5 rfl ?_
    refine zs_iload_n (pc := 6) dM_mostSimilar_6 rfl ?_
    refine zcV1_1 (pc := 7) (d2 := d - 1) (s_M_find_n hl (by omega) i0 hH) dM_mostSimilar_7 kM_102 mdM_find miM_find mvM_find rfl (by exact z2_a) rfl (Nat.le_of_ble_eq_true rfl) (by omega) (by omega) (by omega) ?_
    refine zs_istore_n (pc := 10) (ls2 := [_, _, _, _, _, _]) dM_mostSimilar_10 (Nat.le_of_ble_eq_true rfl) rfl ?_
    refine zs_iload_n (pc := 11) dM_mostSimilar_11 rfl ?_
    refine zs_iconst (pc := 12) dM_mostSimilar_12 zi_m1 ?_
    refine zs_icmp_eq (pc := 13) 26 dM_mostSimilar_13 rfl (fun _ => ?_) (fun h9 => absurd h9 (fun q => q rfl))
    refine zs_aload_n (pc := 26) dM_mostSimilar_26 rfl ?_
    refine zs_iconst (pc := 27) dM_mostSimilar_27 zi_1 ?_
    refine zcV1_1 (pc := 28) (d2 := d - 1) (s_M_throwing hl) dM_mostSimilar_28 kM_90 mdM_throwing miM_throwing mvM_throwing rfl (by exact z2_a) rfl (Nat.le_of_ble_eq_true rfl) (by omega) (by omega) (by omega) ?_
    exact zs_iret (pc := 31) dM_mostSimilar_31 rfl rfl (by omega) (by omega) (⟨rfl, rfl, rfl⟩)
  | true =>
    rw [if_pos rfl]
    obtain ⟨f1, f2, f3⟩ := zHas_y hH
    generalize zAt g y = k at f1 f2 f3 ⊢
    have hb9 := zbs_le (g := g) (k := k) (g 0)
    by_cases e1 : g 0 = 1
    · rw [if_pos (zbs_no (g 0) (fun i hi => by omega))]
      refine zs_aload_n (pc := 0) dM_mostSimilar_0 rfl ?_
      refine zs_iconst (pc := 1) dM_mostSimilar_1 zi_0 ?_
      refine zs_put (pc := 2) (fs2 := [_, _, _, _, _, _, _, _, _, _, _, _, _, _, _, _, _, _, _, _, _]) dM_mostSimilar_2 fM_45 (by first | exact z2_a | exact z2_1) (by rfl) (by rfl) (by exact Nat.le_of_ble_eq_true rfl) (by rfl) ?_
      rw [z2_O]
      refine zs_aload_n (pc := 5) dM_mostSimilar_5 rfl ?_
      refine zs_iload_n (pc := 6) dM_mostSimilar_6 rfl ?_
      refine zcV1_1 (pc := 7) (d2 := d - 1) (s_M_find_y hl (by omega) i0 f1 f2 f3) dM_mostSimilar_7 kM_102 mdM_find miM_find mvM_find rfl (by exact z2_a) rfl (Nat.le_of_ble_eq_true rfl) (by omega) (by omega) (by omega) ?_
      refine zs_istore_n (pc := 10) (ls2 := [_, _, _, _, _, _]) dM_mostSimilar_10 (Nat.le_of_ble_eq_true rfl) rfl ?_
      refine zs_iload_n (pc := 11) dM_mostSimilar_11 rfl ?_
      refine zs_iconst (pc := 12) dM_mostSimilar_12 zi_m1 ?_
      refine zs_icmp_eq (pc := 13) 26 dM_mostSimilar_13 rfl (fun h9 => absurd h9 (nI_kn (by omega))) (fun _ => ?_)
      refine zs_aload_n (pc := 16) dM_mostSimilar_16 rfl ?_
      refine zs_get (pc := 17) dM_mostSimilar_17 fM_9 (by first | exact z2_a | exact z2_1) (by rfl) ?_
      refine zs_iconst (pc := 20) dM_mostSimilar_20 zi_0 ?_
      refine zn_iald (pc := 21) dM_mostSimilar_21 (by first | exact z2_a | exact z2_1) (by omega) (by first | decide | assumption) ?_
      refine zs_iconst (pc := 22) dM_mostSimilar_22 zi_1 ?_
      refine zn_icmp_ne (pc := 23) 32 dM_mostSimilar_23 rfl (by omega) (by omega) (fun h9 => absurd h9 (fun q => q e1)) (fun _ => ?_)
      refine zs_aload_n (pc := 26) dM_mostSimilar_26 rfl ?_
      refine zs_iconst (pc := 27) dM_mostSimilar_27 zi_1 ?_
      refine zcV1_1 (pc := 28) (d2 := d - 1) (s_M_throwing hl) dM_mostSimilar_28 kM_90 mdM_throwing miM_throwing mvM_throwing rfl (by exact z2_a) rfl (Nat.le_of_ble_eq_true rfl) (by omega) (by omega) (by omega) ?_
      exact zs_iret (pc := 31) dM_mostSimilar_31 rfl rfl (by omega) (by omega) (⟨rfl, rfl, rfl⟩)
    · have hne : zbs g k (g 0) ≠ 0 := by
        by_cases e0 : k = 0
        · exact zbs_yes (g 0) 1 (by omega) (by omega)
        · exact zbs_yes (g 0) 0 (by omega) (by omega)
      have ep : zpre (zbs g k (g 0)) = nI (zbs g k (g 0) - 1) := if_neg hne
      rw [if_neg hne]
      refine zs_aload_n (pc := 0) dM_mostSimilar_0 rfl ?_
      refine zs_iconst (pc := 1) dM_mostSimilar_1 zi_0 ?_
      refine zs_put (pc := 2) (fs2 := [_, _, _, _, _, _, _, _, _, _, _, _, _, _, _, _, _, _, _, _, _]) dM_mostSimilar_2 fM_45 (by first | exact z2_a | exact z2_1) (by rfl) (by rfl) (by exact Nat.le_of_ble_eq_true rfl) (by rfl) ?_
      rw [z2_O]
      refine zs_aload_n (pc := 5) dM_mostSimilar_5 rfl ?_
      refine zs_iload_n (pc := 6) dM_mostSimilar_6 rfl ?_
      refine zcV1_1 (pc := 7) (d2 := d - 1) (s_M_find_y hl (by omega) i0 f1 f2 f3) dM_mostSimilar_7 kM_102 mdM_find miM_find mvM_find rfl (by exact z2_a) rfl (Nat.le_of_ble_eq_true rfl) (by omega) (by omega) (by omega) ?_
      refine zs_istore_n (pc := 10) (ls2 := [_, _, _, _, _, _]) dM_mostSimilar_10 (Nat.le_of_ble_eq_true rfl) rfl ?_
      refine zs_iload_n (pc := 11) dM_mostSimilar_11 rfl ?_
      refine zs_iconst (pc := 12) dM_mostSimilar_12 zi_m1 ?_
      refine zs_icmp_eq (pc := 13) 26 dM_mostSimilar_13 rfl (fun h9 => absurd h9 (nI_kn (by omega))) (fun _ => ?_)
      refine zs_aload_n (pc := 16) dM_mostSimilar_16 rfl ?_
      refine zs_get (pc := 17) dM_mostSimilar_17 fM_9 (by first | exact z2_a | exact z2_1) (by rfl) ?_
      refine zs_iconst (pc := 20) dM_mostSimilar_20 zi_0 ?_
      refine zn_iald (pc := 21) dM_mostSimilar_21 (by first | exact z2_a | exact z2_1) (by omega) (by first | decide | assumption) ?_
      refine zs_iconst (pc := 22) dM_mostSimilar_22 zi_1 ?_
      refine zn_icmp_ne (pc := 23) 32 dM_mostSimilar_23 rfl (by omega) (by omega) (fun _ => ?_) (fun h9 => absurd h9 (e1))
      refine zs_iconst (pc := 32) dM_mostSimilar_32 zi_m1 ?_
      refine zs_istore_n (pc := 33) (ls2 := [_, _, _, _, _, _]) dM_mostSimilar_33 (Nat.le_of_ble_eq_true rfl) rfl ?_
      refine zs_iconst (pc := 34) dM_mostSimilar_34 zi_0 ?_
      refine zs_istore (pc := 35) (ls2 := [_, _, _, _, _, _]) dM_mostSimilar_35 (Nat.le_of_ble_eq_true rfl) rfl ?_
      refine lp_M_mostSimilar (s8 := s8) (k := k) hl hd hI f1 (fun x5 => ?_) (g 0) 0 rfl _
      rw [ep]
      refine zs_aload_n (pc := 100) dM_mostSimilar_100 rfl ?_
      refine zs_get (pc := 101) dM_mostSimilar_101 fM_9 (by first | exact z2_a | exact z2_1) (by rfl) ?_
      refine zs_iload_n (pc := 104) dM_mostSimilar_104 rfl ?_
      refine zcS1_1 (pc := 105) (d2 := d - 1) (s_M_entryAt hl) dM_mostSimilar_105 kM_51 mdM_entryAt msM_entryAt rfl (Nat.le_of_ble_eq_true rfl) (by omega) (by omega) (by omega) ?_
      refine zn_iald (pc := 108) dM_mostSimilar_108 (by first | exact z2_a | exact z2_1) (by omega) (by first | decide | assumption) ?_
      exact zs_iret (pc := 109) dM_mostSimilar_109 rfl rfl (by omega) (by omega) (⟨rfl, rfl, rfl⟩)

