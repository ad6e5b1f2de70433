/-! the model: days pass; entries leave from the first to the last, which comes to the same -/
def zdn (k : Nat) : Nat → (Nat → Nat) → (Nat → Nat)
  | 0, g => g
  | m + 1, g => if zbad g (k + m) = true then zdn k m (zlv g (k + m)) else zdn k m g
theorem zdn_0 : ∀ (m : Nat) (g : Nat → Nat), zdn 0 m g = zfal g m := by
  intro m
  induction m with
  | zero => exact fun g => rfl
  | succ m ih =>
    intro g
    unfold zdn zfal
    rw [Nat.zero_add, ih, ih]
theorem zbad_eq {g g2 : Nat → Nat} {k k2 : Nat} (h : ∀ i, i < 12 → eg g k i = eg g2 k2 i) : zbad g k = zbad g2 k2 := by
  unfold zbad
  rw [h 2 (by decide), zlife_eq (h 1 (by decide)) (h 3 (by decide))]
theorem zlv_cm {g : Nat → Nat} {k t : Nat} (hkt : k < t) (ht : t ≤ 19) : zlv (zlv g t) k = zlv (zlv g k) (t - 1) := by
  funext j
  dsimp only [zlv]
  (repeat' split) <;> first | rfl | (exfalso; omega) | (congr 1; omega) | omega
theorem zdn_f : ∀ (m : Nat) (g : Nat → Nat) (k : Nat), k + m ≤ 19 → zdn k (m + 1) g = if zbad g k = true then zdn k m (zlv g k) else zdn (k + 1) m g := by
  intro m
  induction m with
  | zero => intro g k _; rfl
  | succ m ih =>
    intro g k hk
    have e1 : zdn k (m + 1 + 1) g = if zbad g (k + (m + 1)) = true then zdn k (m + 1) (zlv g (k + (m + 1))) else zdn k (m + 1) g := rfl
    have e2 : zdn k (m + 1) (zlv g k) = if zbad (zlv g k) (k + m) = true then zdn k m (zlv (zlv g k) (k + m)) else zdn k m (zlv g k) := rfl
    have e3 : zdn (k + 1) (m + 1) g = if zbad g (k + 1 + m) = true then zdn (k + 1) m (zlv g (k + 1 + m)) else zdn (k + 1) m g := rfl
    have b1 : zbad (zlv g k) (k + m) = zbad g (k + (m + 1)) := zbad_eq fun i hi => eg_lv_h (by omega) (by omega) hi
    have b2 : zbad (zlv g (k + (m + 1))) k = zbad g k := zbad_eq fun i hi => eg_lv_l (by omega) hi
    have c1 := zlv_cm (g := g) (k := k) (t := k + (m + 1)) (by omega) (by omega)
    rw [show k + (m + 1) - 1 = k + m by omega] at c1
    rw [show k + 1 + m = k + (m + 1) by omega] at e3
    rw [e1, ih _ k (by omega), ih _ k (by omega), e2, e3, b1, b2, c1]
    cases zbad g (k + (m + 1)) <;> cases zbad g k <;> rfl
theorem zdn_u5 {k v : Nat} : ∀ (m : Nat) (g : Nat → Nat), zdn k m (zup g 5 v) = zup (zdn k m g) 5 v := by
  intro m
  induction m with
  | zero => exact fun g => rfl
  | succ m ih =>
    intro g
    unfold zdn
    rw [zbad_u5, zlv_u5, ih, ih]
    split <;> rfl
theorem zdn_le {k : Nat} : ∀ (m : Nat) (g : Nat → Nat), zdn k m g 0 ≤ g 0 := by
  intro m
  induction m with
  | zero => exact fun g => Nat.le_refl _
  | succ m ih =>
    intro g
    unfold zdn
    split
    · refine Nat.le_trans (ih _) ?_
      rw [zlv_lo (by decide), if_pos rfl]
      omega
    · exact ih g
theorem zdn_lo {k : Nat} : ∀ (m : Nat) (g : Nat → Nat) (j : Nat), j < 6 → j ≠ 0 → zdn k m g j = g j := by
  intro m
  induction m with
  | zero => exact fun g j _ _ => rfl
  | succ m ih =>
    intro g j hj h0
    unfold zdn
    split
    · rw [ih _ j hj h0, zlv_lo hj, if_neg h0]
    · exact ih g j hj h0
def zEv (s : Nat → Nat) : Prop := s 0 ≤ 20 ∧ s 5 < 2 ^ 20 ∧ ∀ j, j < s 0 → eg s j 1 ≤ 9 ∧ eg s j 2 ≤ 300 ∧ eg s j 3 ≤ 2 ^ 20
theorem zEv.lv {s : Nat → Nat} {k : Nat} (h : zEv s) (hk : k < s 0) (h5 : s 5 + 1 < 2 ^ 20) : zEv (zup (zlv s k) 5 (s 5 + 1)) := by
  obtain ⟨h1, h2, h3⟩ := h
  have e0 : zup (zlv s k) 5 (s 5 + 1) 0 = s 0 - 1 := by rw [zup_n (by decide), zlv_lo (by decide), if_pos rfl]
  refine ⟨by omega, by rw [zup_s]; exact h5, fun j hj => ?_⟩
  rw [e0] at hj
  rw [eg_up (by decide)]
  by_cases e : j < k
  · rw [eg_lv_l e (by decide), eg_lv_l e (by decide), eg_lv_l e (by decide)]
    exact h3 j (by omega)
  · rw [eg_lv_h (by omega) (by omega) (by decide), eg_lv_h (by omega) (by omega) (by decide), eg_lv_h (by omega) (by omega) (by decide)]
    exact h3 (j + 1) (by omega)
theorem lpb_M_passIt {Γ : zG} {l : Launch} (hl : l.stackTraces = false) {d : Nat} (hd : 3 ≤ d) {h : zH} {n a : Nat} {g : Nat → Nat} {s3 s5 s6 s7 s8 s10 s12 s16 s17 s18 s19 s20 : Int32} {x x2 x3 : Int32} {FN : List Frame → Array Value → State → State → Prop} : ∀ (m k : Nat) (s : Nat → Nat), k + m = s 0 → zEv s → s 5 + m < 2 ^ 20 → (∀ x4 : Int32, Z Γ l mM_passIt d 0 0 FN 128 [some (.ref a), some (.int x), some (.int x2), some (.int x3), some (.int x4)] [] (z2 h a (zAr 0 246 (zup (zdn k m s) 5 (s 5 + (s 0 - zdn k m s 0)))) (zMo a s3 s5 s6 s7 s8 s10 s12 s16 s17 s18 s19 s20)) n 0 0) → Z Γ l mM_passIt d 0 0 FN 71 [some (.ref a), some (.int x), some (.int x2), some (.int x3), some (.int (nI k))] [] (z2 h a (zAr 0 246 (s)) (zMo a s3 s5 s6 s7 s8 s10 s12 s16 s17 s18 s19 s20)) n 0 0 := by
  intro m
  induction m with
  | zero =>
    intro k s hk hv h5 K
    have i0 := hv.1
    have e : zup (zdn k 0 s) 5 (s 5 + (s 0 - zdn k 0 s 0)) = s := zup_id (by show s 5 = s 5 + (s 0 - s 0); omega)
    rw [e] at K
    refine zs_iload (pc := 71) dM_passIt_71 rfl ?_
    refine zs_aload_n (pc := 73) dM_passIt_73 rfl ?_
    refine zs_get (pc := 74) dM_passIt_74 fM_9 (by first | exact z2_a | exact z2_1) (by rfl) ?_
    refine zs_iconst (pc := 77) dM_passIt_77 zi_0 ?_
    refine zn_iald (pc := 78) dM_passIt_78 (by first | exact z2_a | exact z2_1) (by omega) (by first | decide | assumption) ?_
    refine zn_icmp_ge (pc := 79) 128 dM_passIt_79 rfl (by omega) (by omega) (fun _ => ?_) (fun h9 => absurd h9 (by omega))
    exact K _
  | succ m ih =>
    intro k s hk hv h5 K
    have i0 := hv.1
    obtain ⟨v1, v2, v3⟩ := hv.2.2 k (by omega)
    have hlf := zlife_le (eg s k)
    have e2 : s (6 + 12 * k + 2) = eg s k 2 := rfl
    have hf := zdn_f m s k (by omega)
    by_cases e : zlife (eg s k) < eg s k 2
    · have hb : zbad s k = true := decide_eq_true e
      rw [if_pos hb] at hf
      have r5 : zlv s k 5 = s 5 := by rw [zlv_lo (by decide), if_neg (by decide)]
      have r0 : zup (zlv s k) 5 (s 5 + 1) 0 = s 0 - 1 := by rw [zup_n (by decide), zlv_lo (by decide), if_pos rfl]
      have hle := zdn_le (k := k) m (zlv s k)
      rw [zlv_lo (by decide), if_pos rfl] at hle
      have z5 : zup (zlv s k) 5 (s 5 + 1) 5 = s 5 + 1 := zup_s
      have hz := ih k (zup (zlv s k) 5 (s 5 + 1)) (by omega) (hv.lv (by omega) (by omega)) (by omega)
      rw [zdn_u5, r0, z5, zup_zup, zup_n (by decide)] at hz
      rw [hf] at K
      rw [show s 5 + 1 + (s 0 - 1 - zdn k m (zlv s k) 0) = s 5 + (s 0 - zdn k m (zlv s k) 0) by omega] at hz
      refine zs_iload (pc := 71) dM_passIt_71 rfl ?_
      refine zs_aload_n (pc := 73) dM_passIt_73 rfl ?_
      refine zs_get (pc := 74) dM_passIt_74 fM_9 (by first | exact z2_a | exact z2_1) (by rfl) ?_
      refine zs_iconst (pc := 77) dM_passIt_77 zi_0 ?_
      refine zn_iald (pc := 78) dM_passIt_78 (by first | exact z2_a | exact z2_1) (by omega) (by first | decide | assumption) ?_
      refine zn_icmp_ge (pc := 79) 128 dM_passIt_79 rfl (by omega) (by omega) (fun h9 => absurd h9 (by omega)) (fun _ => ?_)
      refine zs_aload_n (pc := 82) dM_passIt_82 rfl ?_
      refine zs_get (pc := 83) dM_passIt_83 fM_9 (by first | exact z2_a | exact z2_1) (by rfl) ?_
      refine zs_iload (pc := 86) dM_passIt_86 rfl ?_
      refine zcS1_1 (pc := 88) (d2 := d - 1) (s_M_entryAt hl) dM_passIt_88 kM_51 mdM_entryAt msM_entryAt rfl (Nat.le_of_ble_eq_true rfl) (by omega) (by omega) (by omega) ?_
      refine zs_iconst (pc := 91) dM_passIt_91 zi_2 ?_
      refine zn_iadd (pc := 92) dM_passIt_92 ?_
      refine zn_iald (pc := 93) dM_passIt_93 (by first | exact z2_a | exact z2_1) (by omega) (by first | decide | assumption) ?_
      refine zs_aload_n (pc := 94) dM_passIt_94 rfl ?_
      refine zs_iload (pc := 95) dM_passIt_95 rfl ?_
      refine zcV1_1 (pc := 97) (d2 := d - 1) (s_M_lifetime hl (by omega) (by omega) (by omega) v3) dM_passIt_97 kM_85 mdM_lifetime miM_lifetime mvM_lifetime rfl (by exact z2_a) rfl (Nat.le_of_ble_eq_true rfl) (by omega) (by omega) (by omega) ?_
      refine zn_icmp_le (pc := 100) 122 dM_passIt_100 rfl (by omega) (by omega) (fun h9 => absurd h9 (by omega)) (fun _ => ?_)
      refine zs_aload_n (pc := 103) dM_passIt_103 rfl ?_
      refine zs_iload (pc := 104) dM_passIt_104 rfl ?_
      refine zcV0_1 (pc := 106) (d2 := d - 1) (s_M_leaves hl (by omega) (by omega) (by omega)) dM_passIt_106 kM_117 mdM_leaves miM_leaves mvM_leaves rfl (by exact z2_a) rfl (Nat.le_of_ble_eq_true rfl) (by omega) (by omega) (by omega) ?_
      refine zs_aload_n (pc := 109) dM_passIt_109 rfl ?_
      refine zs_get (pc := 110) dM_passIt_110 fM_9 (by first | exact z2_a | exact z2_1) (by rfl) ?_
      refine zs_iconst (pc := 113) dM_passIt_113 zi_5 ?_
      refine zs_dup2 (pc := 114) dM_passIt_114 rfl rfl ?_
      refine zn_iald (pc := 115) dM_passIt_115 (by first | exact z2_a | exact z2_1) (by omega) (by first | decide | assumption) ?_
      rw [r5]
      refine zs_iconst (pc := 116) dM_passIt_116 zi_1 ?_
      refine zn_iadd (pc := 117) dM_passIt_117 ?_
      refine zn_iast (pc := 118) dM_passIt_118 (by first | exact z2_a | exact z2_1) (by omega) (by first | decide | assumption) ?_
      first | rw [z2_G] | rw [z2_q2] | rw [z2_q3] | rw [z2_q4] | rw [z2_q5] | rw [z2_q6] | rw [z2_q9]
      refine zs_goto (pc := 119) 71 dM_passIt_119 rfl ?_
      exact hz K
    · have hb : zbad s k = false := decide_eq_false e
      rw [if_neg (by rw [hb]; decide)] at hf
      have hz := ih (k + 1) s (by omega) hv (by omega)
      rw [hf] at K
      refine zs_iload (pc := 71) dM_passIt_71 rfl ?_
      refine zs_aload_n (pc := 73) dM_passIt_73 rfl ?_
      refine zs_get (pc := 74) dM_passIt_74 fM_9 (by first | exact z2_a | exact z2_1) (by rfl) ?_
      refine zs_iconst (pc := 77) dM_passIt_77 zi_0 ?_
      refine zn_iald (pc := 78) dM_passIt_78 (by first | exact z2_a | exact z2_1) (by omega) (by first | decide | assumption) ?_
      refine zn_icmp_ge (pc := 79) 128 dM_passIt_79 rfl (by omega) (by omega) (fun h9 => absurd h9 (by omega)) (fun _ => ?_)
      refine zs_aload_n (pc := 82) dM_passIt_82 rfl ?_
      refine zs_get (pc := 83) dM_passIt_83 fM_9 (by first | exact z2_a | exact z2_1) (by rfl) ?_
      refine zs_iload (pc := 86) dM_passIt_86 rfl ?_
      refine zcS1_1 (pc := 88) (d2 := d - 1) (s_M_entryAt hl) dM_passIt_88 kM_51 mdM_entryAt msM_entryAt rfl (Nat.le_of_ble_eq_true rfl) (by omega) (by omega) (by omega) ?_
      refine zs_iconst (pc := 91) dM_passIt_91 zi_2 ?_
      refine zn_iadd (pc := 92) dM_passIt_92 ?_
      refine zn_iald (pc := 93) dM_passIt_93 (by first | exact z2_a | exact z2_1) (by omega) (by first | decide | assumption) ?_
      refine zs_aload_n (pc := 94) dM_passIt_94 rfl ?_
      refine zs_iload (pc := 95) dM_passIt_95 rfl ?_
      refine zcV1_1 (pc := 97) (d2 := d - 1) (s_M_lifetime hl (by omega) (by omega) (by omega) v3) dM_passIt_97 kM_85 mdM_lifetime miM_lifetime mvM_lifetime rfl (by exact z2_a) rfl (Nat.le_of_ble_eq_true rfl) (by omega) (by omega) (by omega) ?_
      refine zn_icmp_le (pc := 100) 122 dM_passIt_100 rfl (by omega) (by omega) (fun _ => ?_) (fun h9 => absurd h9 (by omega))
      refine zn_iinc (pc := 122) (ls2 := [_, _, _, _, _]) dM_passIt_122 rfl (Nat.le_of_ble_eq_true rfl) rfl ?_
      refine zs_goto (pc := 125) 71 dM_passIt_125 rfl ?_
      exact hz K
def zageN (g : Nat → Nat) (m : Nat) : Nat → Nat := fun j => if 6 ≤ j ∧ (j - 6) % 12 = 2 ∧ (j - 6) / 12 < m then g j + 1 else g j
theorem lpa_M_passIt {Γ : zG} {l : Launch} (hl : l.stackTraces = false) {d : Nat} (hd : 3 ≤ d) {h : zH} {n a : Nat} {g : Nat → Nat} {s3 s5 s6 s7 s8 s10 s12 s16 s17 s18 s19 s20 : Int32} {x x2 x3 : Int32} {FN : List Frame → Array Value → State → State → Prop} (hg0 : g 0 ≤ 20) (K : ∀ x4 : Int32, Z Γ l mM_passIt d 0 0 FN 68 [some (.ref a), some (.int x), some (.int x2), some (.int x3), some (.int x4)] [] (z2 h a (zAr 0 246 (zage g)) (zMo a s3 s5 s6 s7 s8 s10 s12 s16 s17 s18 s19 s20)) n 0 0) : ∀ i j, i + j = g 0 → Z Γ l mM_passIt d 0 0 FN 35 [some (.ref a), some (.int x), some (.int x2), some (.int x3), some (.int (nI j))] [] (z2 h a (zAr 0 246 (zageN g j)) (zMo a s3 s5 s6 s7 s8 s10 s12 s16 s17 s18 s19 s20)) n 0 0 := by
  intro i
  induction i with
  | zero =>
    intro j hj
    obtain rfl : j = g 0 := by omega
    have e0 : zageN g (g 0) 0 = g 0 := by unfold zageN; rw [if_neg (by omega)]
    refine zs_iload (pc := 35) dM_passIt_35 rfl ?_
    refine zs_aload_n (pc := 37) dM_passIt_37 rfl ?_
    refine zs_get (pc := 38) dM_passIt_38 fM_9 (by first | exact z2_a | exact z2_1) (by rfl) ?_
    refine zs_iconst (pc := 41) dM_passIt_41 zi_0 ?_
    refine zn_iald (pc := 42) dM_passIt_42 (by first | exact z2_a | exact z2_1) (by omega) (by first | decide | assumption) ?_
    rw [e0]
    refine zn_icmp_ge (pc := 43) 68 dM_passIt_43 rfl (by omega) (by omega) (fun _ => ?_) (fun h9 => absurd h9 (by omega))
    exact K _
  | succ i ih =>
    intro j hj
    have hz := ih (j + 1) (by omega)
    have e0 : zageN g j 0 = g 0 := by unfold zageN; rw [if_neg (by omega)]
    have er : zageN g j (6 + 12 * j + 2) = g (6 + 12 * j + 2) := by unfold zageN; rw [if_neg (by omega)]
    have ew : zup (zageN g j) (6 + 12 * j + 2) (g (6 + 12 * j + 2) + 1) = zageN g (j + 1) := by
      funext i
      dsimp only [zup, zageN]
      by_cases e9 : i = 6 + 12 * j + 2
      · subst e9
        rw [if_pos rfl, if_pos (by omega)]
      · rw [if_neg e9]
        by_cases e8 : 6 ≤ i ∧ (i - 6) % 12 = 2 ∧ (i - 6) / 12 < j
        · rw [if_pos e8, if_pos (by omega)]
        · rw [if_neg e8, if_neg (by omega)]
    refine zs_iload (pc := 35) dM_passIt_35 rfl ?_
    refine zs_aload_n (pc := 37) dM_passIt_37 rfl ?_
    refine zs_get (pc := 38) dM_passIt_38 fM_9 (by first | exact z2_a | exact z2_1) (by rfl) ?_
    refine zs_iconst (pc := 41) dM_passIt_41 zi_0 ?_
    refine zn_iald (pc := 42) dM_passIt_42 (by first | exact z2_a | exact z2_1) (by omega) (by first | decide | assumption) ?_
    rw [e0]
    refine zn_icmp_ge (pc := 43) 68 dM_passIt_43 rfl (by omega) (by omega) (fun h9 => absurd h9 (by omega)) (fun _ => ?_)
    refine zs_aload_n (pc := 46) dM_passIt_46 rfl ?_
    refine zs_get (pc := 47) dM_passIt_47 fM_9 (by first | exact z2_a | exact z2_1) (by rfl) ?_
    refine zs_iload (pc := 50) dM_passIt_50 rfl ?_
    refine zcS1_1 (pc := 52) (d2 := d - 1) (s_M_entryAt hl) dM_passIt_52 kM_51 mdM_entryAt msM_entryAt rfl (Nat.le_of_ble_eq_true rfl) (by omega) (by omega) (by omega) ?_
    refine zs_iconst (pc := 55) dM_passIt_55 zi_2 ?_
    refine zn_iadd (pc := 56) dM_passIt_56 ?_
    refine zs_dup2 (pc := 57) dM_passIt_57 rfl rfl ?_
    refine zn_iald (pc := 58) dM_passIt_58 (by first | exact z2_a | exact z2_1) (by omega) (by first | decide | assumption) ?_
    rw [er]
    refine zs_iconst (pc := 59) dM_passIt_59 zi_1 ?_
    refine zn_iadd (pc := 60) dM_passIt_60 ?_
    refine zn_iast (pc := 61) dM_passIt_61 (by first | exact z2_a | exact z2_1) (by omega) (by first | decide | assumption) ?_
    first | rw [z2_G] | rw [z2_q2] | rw [z2_q3] | rw [z2_q4] | rw [z2_q5] | rw [z2_q6] | rw [z2_q9]
    rw [ew]
    refine zn_iinc (pc := 62) (ls2 := [_, _, _, _, _]) dM_passIt_62 rfl (Nat.le_of_ble_eq_true rfl) rfl ?_
    refine zs_goto (pc := 65) 35 dM_passIt_65 rfl ?_
    exact hz
theorem lp_M_passIt {Γ : zG} {l : Launch} (hl : l.stackTraces = false) {d : Nat} (hd : 3 ≤ d) {h : zH} {n a : Nat} {g : Nat → Nat} {s3 s5 s6 s7 s8 s10 s12 s16 s17 s18 s19 s20 : Int32} {B w : Nat} {x2 : Int32} (hI : IG B g) (hB : B + 20 < 2 ^ 20) (hw : w ≤ 60) {FN : List Frame → Array Value → State → State → Prop} (K : ∀ x4, Z Γ l mM_passIt d 0 0 FN 134 [some (.ref a), some (.int (nI w)), some (.int x2), some (.int (nI w)), x4] [] (z2 h a (zAr 0 246 (zdays g w)) (zMo a s3 s5 s6 s7 s8 s10 s12 s16 s17 s18 s19 s20)) n 0 0) : ∀ i j, i + j = w → ∀ x4, Z Γ l mM_passIt d 0 0 FN 27 [some (.ref a), some (.int (nI w)), some (.int x2), some (.int (nI j)), x4] [] (z2 h a (zAr 0 246 (zdays g j)) (zMo a s3 s5 s6 s7 s8 s10 s12 s16 s17 s18 s19 s20)) n 0 0 := by
  intro i
  induction i with
  | zero =>
    intro j hj x4
    obtain rfl : j = w := by omega
    refine zs_iload_n (pc := 27) dM_passIt_27 rfl ?_
    refine zs_iload_n (pc := 28) dM_passIt_28 rfl ?_
    refine zn_icmp_ge (pc := 29) 134 dM_passIt_29 rfl (by omega) (by omega) (fun _ => ?_) (fun h9 => absurd h9 (by omega))
    exact K _
  | succ i ih =>
    intro j hj x4
    have hz := ih (j + 1) (by omega)
    have hJ := hI.days j
    have ed : zdays g (j + 1) = zday (zdays g j) := rfl
    rw [ed] at hz
    generalize zdays g j = s at hJ hz ⊢
    have j0 := hJ.1
    have j1 := hJ.2.1
    have j4 := hJ.2.2.2.2.1
    have a0 : zage s 0 = s 0 := zage_lo (by decide)
    have a5 : zage s 5 = s 5 := zage_lo (by decide)
    have hEv : zEv (zage s) := by
      refine ⟨by omega, by omega, fun k hk => ?_⟩
      rw [a0] at hk
      obtain ⟨b0, b1, b2, b3, b4, b5, b6⟩ := hJ.b (by omega) hk
      have w2 := (hJ.w hk).2
      have hlf := zlife_le (eg s k)
      have h1 : eg (zage s) k 1 = eg s k 1 := by rw [eg_age (by decide), if_neg (by omega)]
      have h2 : eg (zage s) k 2 = eg s k 2 + 1 := by rw [eg_age (by decide), if_pos ⟨rfl, hk⟩]
      have h3 : eg (zage s) k 3 = eg s k 3 := by rw [eg_age (by decide), if_neg (by omega)]
      rw [h1, h2, h3]
      exact ⟨b1, by omega, b3⟩
    have ez : zup (zdn 0 (s 0) (zage s)) 5 (zage s 5 + (zage s 0 - zdn 0 (s 0) (zage s) 0)) = zday s := by
      rw [zdn_0, a0, a5]
      rfl
    have hz0 : zageN s 0 = s := by
      funext j
      unfold zageN
      rw [if_neg (by omega)]
    have h1 : ∀ x4 : Int32, Z Γ l mM_passIt d 0 0 FN 128 [some (.ref a), some (.int (nI w)), some (.int x2), some (.int (nI j)), some (.int x4)] [] (z2 h a (zAr 0 246 (zup (zdn 0 (s 0) (zage s)) 5 (zage s 5 + (zage s 0 - zdn 0 (s 0) (zage s) 0)))) (zMo a s3 s5 s6 s7 s8 s10 s12 s16 s17 s18 s19 s20)) n 0 0 := fun x4 => by
      rw [ez]
      refine zn_iinc (pc := 128) (ls2 := [_, _, _, _, _]) dM_passIt_128 rfl (Nat.le_of_ble_eq_true rfl) rfl ?_
      refine zs_goto (pc := 131) 27 dM_passIt_131 rfl ?_
      exact hz _
    have h2 : ∀ x4 : Int32, Z Γ l mM_passIt d 0 0 FN 68 [some (.ref a), some (.int (nI w)), some (.int x2), some (.int (nI j)), some (.int x4)] [] (z2 h a (zAr 0 246 (zage s)) (zMo a s3 s5 s6 s7 s8 s10 s12 s16 s17 s18 s19 s20)) n 0 0 := fun x4 => by
      refine zs_iconst (pc := 68) dM_passIt_68 zi_0 ?_
      refine zs_istore (pc := 69) (ls2 := [_, _, _, _, _]) dM_passIt_69 (Nat.le_of_ble_eq_true rfl) rfl ?_
      exact lpb_M_passIt (g := s) hl hd (s 0) 0 (zage s) (by omega) hEv (by omega) h1
    have h3 := lpa_M_passIt (Γ := Γ) (l := l) (g := s) hl (d := d) hd j0 h2 (s 0) 0 rfl
    rw [hz0] at h3
    refine zs_iload_n (pc := 27) dM_passIt_27 rfl ?_
    refine zs_iload_n (pc := 28) dM_passIt_28 rfl ?_
    refine zn_icmp_ge (pc := 29) 134 dM_passIt_29 rfl (by omega) (by omega) (fun h9 => absurd h9 (by omega)) (fun _ => ?_)
    refine zs_iconst (pc := 32) dM_passIt_32 zi_0 ?_
    refine zs_istore (pc := 33) (ls2 := [_, _, _, _, _]) dM_passIt_33 (Nat.le_of_ble_eq_true rfl) rfl ?_
    exact h3
theorem s_M_passIt {Γ : zG} {l : Launch} (hl : l.stackTraces = false) {d : Nat} (hd : 3 ≤ d) {h : zH} {n a : Nat} {g : Nat → Nat} {s3 s5 s6 s7 s8 s10 s12 s16 s17 s18 s19 s20 : Int32} {B : Nat} (hI : IG B g) (hB : B + 20 < 2 ^ 20) (x : Int32) : zC Γ l d mM_passIt [.ref a, .int x] (z2 h a (zAr 0 246 (g)) (zMo a s3 s5 s6 s7 s8 s10 s12 s16 s17 s18 s19 s20)) n 0 0 (zR (some (.int (zma (zopPass g x)))) (z2 h a (zAr 0 246 ((zopPass g x).2.2)) (zMo a s3 s5 s6 s7 (zmth s8 (zopPass g x)) s10 s12 s16 s17 s18 s19 s20)) n) := by
  unfold zopPass
  refine zC_of (ls := [some (.ref a), some (.int x), none, none, none]) hl (by decide +kernel) rfl (Nat.le_of_ble_eq_true rfl) rfl ?_
  cases hv : zV x 1 60 with
  | false =>
    rw [if_neg (by decide)]
    refine zs_iload_n (pc := 0) dM_passIt_0 rfl ?_
    refine zs_i2l (pc := 1) dM_passIt_1 ?_
    refine zs_lconst (pc := 2) (v := 1) dM_passIt_2 (by decide) ?_
    refine zs_ldc2 (pc := 3) (v := 60) dM_passIt_3 (zt7 (i := 5) rfl) ?_
    refine zcS1_3 (pc := 6) (d2 := d - 1) (s_M_inV_n hl (by decide) (by decide) hv) dM_passIt_6 kM_55 mdM_in msM_in rfl (Nat.le_of_ble_eq_true rfl) (by omega) (by omega) (by omega) ?_
    refine zs_if_ne (pc := 9) 18 dM_passIt_9 rfl (fun h9 => absurd h9 (by decide)) (fun _ => ?_)
    refine zs_aload_n (pc := 12) dM_passIt_12 rfl ?_
    refine zs_iconst (pc := 13) dM_passIt_13 zi_1 ?_
    refine zcV1_1 (pc := 14) (d2 := d - 1) (s_M_throwing hl) dM_passIt_14 kM_90 mdM_throwing miM_throwing mvM_throwing rfl (by exact z2_a) rfl (Nat.le_of_ble_eq_true rfl) (by omega) (by omega) (by omega) ?_
    exact zs_iret (pc := 17) dM_passIt_17 rfl rfl (by omega) (by omega) (⟨rfl, rfl, rfl⟩)
  | true =>
    rw [if_pos rfl]
    have hv9 := hv
    obtain ⟨v1, v2, v3⟩ := zV_y hv
    generalize x.toInt.toNat = w at v1 v2 v3 ⊢
    subst v3
    have h5 : g 5 ≤ zdays g w 5 := by
      rw [zdays_W, zup_s]
      omega
    have K : ∀ x4, Z Γ l mM_passIt d 0 0 (zFin Γ (zR (some (.int (zma (((0, zdays g w 5 - g 5, zdays g w) : zOp))))) (z2 h a (zAr 0 246 ((((0, zdays g w 5 - g 5, zdays g w) : zOp)).2.2)) (zMo a s3 s5 s6 s7 (zmth s8 (((0, zdays g w 5 - g 5, zdays g w) : zOp))) s10 s12 s16 s17 s18 s19 s20)) n) 0 0) 134 [some (.ref a), some (.int (nI w)), some (.int (nI (g 5))), some (.int (nI w)), x4] [] (z2 h a (zAr 0 246 (zdays g w)) (zMo a s3 s5 s6 s7 s8 s10 s12 s16 s17 s18 s19 s20)) n 0 0 := fun x4 => by
      refine zs_aload_n (pc := 134) dM_passIt_134 rfl ?_
      refine zs_get (pc := 135) dM_passIt_135 fM_9 (by first | exact z2_a | exact z2_1) (by rfl) ?_
      refine zs_iconst (pc := 138) dM_passIt_138 zi_5 ?_
      refine zn_iald (pc := 139) dM_passIt_139 (by first | exact z2_a | exact z2_1) (by omega) (by first | decide | assumption) ?_
      refine zs_iload_n (pc := 140) dM_passIt_140 rfl ?_
      refine zn_isub (pc := 141) dM_passIt_141 (by omega) ?_
      exact zs_iret (pc := 142) dM_passIt_142 rfl rfl (by omega) (by omega) (⟨rfl, rfl, rfl⟩)
    have h9 := lp_M_passIt (Γ := Γ) (l := l) hl (d := d) hd hI hB v2 K w 0 rfl none
    have ez : zdays g 0 = g := rfl
    rw [ez] at h9
    refine zs_iload_n (pc := 0) dM_passIt_0 rfl ?_
    refine zs_i2l (pc := 1) dM_passIt_1 ?_
    refine zs_lconst (pc := 2) (v := 1) dM_passIt_2 (by decide) ?_
    refine zs_ldc2 (pc := 3) (v := 60) dM_passIt_3 (zt7 (i := 5) rfl) ?_
    refine zcS1_3 (pc := 6) (d2 := d - 1) (s_M_inV_y hl (by decide) (by decide) hv9) dM_passIt_6 kM_55 mdM_in msM_in rfl (Nat.le_of_ble_eq_true rfl) (by omega) (by omega) (by omega) ?_
    refine zs_if_ne (pc := 9) 18 dM_passIt_9 rfl (fun _ => ?_) (fun h9 => absurd h9 (by decide))
    refine zs_aload_n (pc := 18) dM_passIt_18 rfl ?_
    refine zs_get (pc := 19) dM_passIt_19 fM_9 (by first | exact z2_a | exact z2_1) (by rfl) ?_
    refine zs_iconst (pc := 22) dM_passIt_22 zi_5 ?_
    refine zn_iald (pc := 23) dM_passIt_23 (by first | exact z2_a | exact z2_1) (by omega) (by first | decide | assumption) ?_
    refine zs_istore_n (pc := 24) (ls2 := [_, _, _, _, _]) dM_passIt_24 (Nat.le_of_ble_eq_true rfl) rfl ?_
    refine zs_iconst (pc := 25) dM_passIt_25 zi_0 ?_
    refine zs_istore_n (pc := 26) (ls2 := [_, _, _, _, _]) dM_passIt_26 (Nat.le_of_ble_eq_true rfl) rfl ?_
    exact h9

