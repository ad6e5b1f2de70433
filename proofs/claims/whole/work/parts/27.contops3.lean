/-! the contents' commands: touch, segments, merge -/
theorem zA.put {k : Nat} {p : Nat → Nat} {Q : Nat → Nat → Nat} {g q q2 : Nat → Nat} (hp : PM p) (hA : ∀ j, j < g 0 → zAg (Q (p j)) (eg g j)) (h6 : ∀ j, j < g 0 → eg g j 5 ≤ 6) (hk : k < g 0) (h20 : g 0 ≤ 20) (hq : zAg q q2) (hq6 : q2 5 ≤ 6) : ∀ j, j < g 0 → zAg (zQu Q (p k) q (p j)) (eg (zput g k q2) j) := by
  intro j hj
  by_cases e : j = k
  · subst e
    rw [zQu_s]
    exact hq.eqv hq6 (fun i hi => eg_put_s hi)
  · rw [zQu_n (fun q9 => e (hp.2 _ _ (by omega) (by omega) q9))]
    exact (hA j hj).eqv (h6 j hj) (fun i hi => eg_put_o e hi)
theorem zput_up {g : Nat → Nat} {k i v : Nat} (hi : i < 12) : zput g k (zup (eg g k) i v) = zup g (6 + 12 * k + i) v := by
  funext j
  unfold zput zup eg
  by_cases h1 : 6 + 12 * k ≤ j ∧ j < 18 + 12 * k
  · rw [if_pos h1]
    by_cases h2 : j = 6 + 12 * k + i
    · rw [if_pos (by omega), if_pos h2]
    · rw [if_neg (by omega), if_neg h2]
      congr 1
      omega
  · rw [if_neg h1, if_neg (by omega)]
theorem zAg.up {q q2 : Nat → Nat} (h : zAg q q2) {i v : Nat} (hi : i < 5) : zAg (zup q i v) (zup q2 i v) := by
  intro a ha
  rw [zup_n (by omega)] at ha
  unfold zup
  split
  · rfl
  · exact h a ha
theorem s_C_freshen {Γ : zG} {l : Launch} (hl : l.stackTraces = false) {d : Nat} (hd : 1 ≤ d) {h : zH} {n : Nat} {B r : Nat} {g : Nat → Nat} (hR : CR h r g) (hI : IG B g) (hB : B < 2 ^ 20) (x : Int32) : zC Γ l d mC_freshen [.ref r, .int x] h n 0 0 (zCq r h n 4 (zopTouch g x)) := by
  have hR9 := hR
  obtain ⟨p, Q, hC, hp, hA⟩ := hR
  have i0 := hI.1
  refine zC_of (ls := [some (.ref r), some (.int x), none, none]) hl (by decide +kernel) rfl (Nat.le_of_ble_eq_true rfl) rfl ?_
  unfold zopTouch
  cases hH : zHas g x with
  | false =>
    rw [if_neg (by decide)]
    refine zs_aload_n (pc := 0) dC_freshen_0 rfl ?_
    refine zs_iload_n (pc := 1) dC_freshen_1 rfl ?_
    refine zcV1_1 (pc := 2) (d2 := d - 1) (s_C_find_gn hl hC hp hA hI hH) dC_freshen_2 kC_84 mdC_find miC_find mvC_find rfl (by first | exact hC.1) rfl (Nat.le_of_ble_eq_true rfl) (by omega) (by omega) (by omega) ?_
    refine zs_astore_nN (pc := 5) (ls2 := [_, _, _, _]) dC_freshen_5 (Nat.le_of_ble_eq_true rfl) rfl ?_
    refine zs_aload_nN (pc := 6) dC_freshen_6 rfl ?_
    refine zs_ifnonnullN (pc := 7) dC_freshen_7 ?_
    refine zs_iconst (pc := 10) dC_freshen_10 zi_m1 ?_
    exact zs_iret (pc := 11) dC_freshen_11 rfl rfl (by omega) (by omega) (⟨rfl, rfl, zfr.rf, hR9⟩)
  | true =>
    rw [if_pos rfl]
    obtain ⟨f1, f2, f3⟩ := zHas_y hH
    generalize zAt g x = k at f1 f2 f3 ⊢
    have hs := hp.1 k (by omega)
    have h0 := hC.2.2 (p k) hs
    have hA1 := hA k f1
    have e2 := hA1 2 (by omega)
    have hC2 : CH _ r p _ (zFg g) := hC.setE hs (q := zup (Q (p k)) 2 0) (fun i => zup_n (by omega))
    have hA2 := zA.put hp hA hI.s6 f1 i0 (hA1.up (i := 2) (v := 0) (by decide)) (hI.s6 k f1)
    have hCR := CR.mk (g2 := zput g k (zup (eg g k) 2 0)) hC2 hp (zput_lo (j := 0) (by decide)).symm (zput_lo (j := 1) (by decide)).symm (zput_lo (j := 2) (by decide)).symm (zput_lo (j := 1) (by decide)).symm (zput_lo (j := 3) (by decide)).symm (zput_lo (j := 4) (by decide)).symm (zput_lo (j := 5) (by decide)).symm (fun j hj => hA2 j (by rw [zput_lo (by decide)] at hj; exact hj))
    rw [zput_up (by decide)] at hCR
    refine zs_aload_n (pc := 0) dC_freshen_0 rfl ?_
    refine zs_iload_n (pc := 1) dC_freshen_1 rfl ?_
    refine zcV1_1 (pc := 2) (d2 := d - 1) (s_C_find_k hl hC hp hA hI f1 f2 f3) dC_freshen_2 kC_84 mdC_find miC_find mvC_find rfl (by first | exact hC.1) rfl (Nat.le_of_ble_eq_true rfl) (by omega) (by omega) (by omega) ?_
    refine zs_astore_n (pc := 5) (ls2 := [_, _, _, _]) dC_freshen_5 (Nat.le_of_ble_eq_true rfl) rfl ?_
    refine zs_aload_n (pc := 6) dC_freshen_6 rfl ?_
    refine zs_ifnonnull (pc := 7) 12 dC_freshen_7 rfl ?_
    refine zs_aload_n (pc := 12) dC_freshen_12 rfl ?_
    refine zs_get (pc := 13) dC_freshen_13 fC_108 (by first | exact h0.1) (by rfl) ?_
    refine zs_istore_n (pc := 16) (ls2 := [_, _, _, _]) dC_freshen_16 (Nat.le_of_ble_eq_true rfl) rfl ?_
    refine zs_aload_n (pc := 17) dC_freshen_17 rfl ?_
    refine zs_iconst (pc := 18) dC_freshen_18 zi_0 ?_
    refine zs_put (pc := 19) (fs2 := [_, _, _, _, _, _, _]) dC_freshen_19 fC_108 (by first | exact h0.1) (by rfl) (by rfl) (by exact Nat.le_of_ble_eq_true rfl) (by rfl) ?_
    refine zs_iload_n (pc := 22) dC_freshen_22 rfl ?_
    exact zs_iret (pc := 23) dC_freshen_23 rfl rfl (by omega) (by omega) (⟨by rw [e2]; rfl, rfl, zfr.u (by omega) (by omega), hCR⟩)
theorem s_C_openSegment {Γ : zG} {l : Launch} (hl : l.stackTraces = false) {d : Nat} {h : zH} {n : Nat} {B r : Nat} {g : Nat → Nat} (hR : CR h r g) (hI : IG B g) (hB : B < 2 ^ 20) : zC Γ l d mC_openSegment [.ref r] h n 0 0 (zCq r h n 6 (zopSeg g)) := by
  have hR9 := hR
  obtain ⟨p, Q, hC, hp, hA⟩ := hR
  have i3 := hI.2.2.2.1
  have e3 : zFg g 3 = g 2 := rfl
  refine zC_of (ls := [some (.ref r)]) hl (by decide +kernel) rfl (Nat.le_of_ble_eq_true rfl) rfl ?_
  unfold zopSeg
  by_cases h5 : g 2 = 5
  · rw [if_pos h5]
    refine zs_aload_n (pc := 0) dC_openSegment_0 rfl ?_
    refine zs_get (pc := 1) dC_openSegment_1 fC_24 (by first | exact hC.1 | exact zu_s) (by rfl) ?_
    refine zs_iconst (pc := 4) dC_openSegment_4 zi_5 ?_
    refine zn_icmp_lt (pc := 5) 11 dC_openSegment_5 rfl (by omega) (by omega) (fun h9 => absurd h9 (by omega)) (fun _ => ?_)
    refine zs_bipush (pc := 8) (v := -3) dC_openSegment_8 (by decide) ?_
    exact zs_iret (pc := 10) dC_openSegment_10 rfl rfl (by omega) (by omega) (⟨rfl, rfl, zfr.rf, hR9⟩)
  · rw [if_neg h5]
    refine zs_aload_n (pc := 0) dC_openSegment_0 rfl ?_
    refine zs_get (pc := 1) dC_openSegment_1 fC_24 (by first | exact hC.1 | exact zu_s) (by rfl) ?_
    refine zs_iconst (pc := 4) dC_openSegment_4 zi_5 ?_
    refine zn_icmp_lt (pc := 5) 11 dC_openSegment_5 rfl (by omega) (by omega) (fun _ => ?_) (fun h9 => absurd h9 (by omega))
    refine zs_aload_n (pc := 11) dC_openSegment_11 rfl ?_
    refine zs_dup (pc := 12) dC_openSegment_12 rfl ?_
    refine zs_get (pc := 13) dC_openSegment_13 fC_24 (by first | exact hC.1 | exact zu_s) (by rfl) ?_
    refine zs_iconst (pc := 16) dC_openSegment_16 zi_1 ?_
    refine zn_iadd (pc := 17) dC_openSegment_17 ?_
    refine zs_put (pc := 18) (fs2 := [_, _, _, _, _, _, _, _]) dC_openSegment_18 fC_24 (by first | exact hC.1 | exact zu_s) (by rfl) (by rfl) (by exact Nat.le_of_ble_eq_true rfl) (by rfl) ?_
    refine zs_aload_n (pc := 21) dC_openSegment_21 rfl ?_
    refine zs_get (pc := 22) dC_openSegment_22 fC_24 (by first | exact hC.1 | exact zu_s) (by rfl) ?_
    refine zs_iconst (pc := 25) dC_openSegment_25 zi_1 ?_
    refine zn_isub (pc := 26) dC_openSegment_26 (by omega) ?_
    have hC2 : CH _ r p Q (fun j => if j = 3 then g 2 + 1 else zFg g j) := hC.setF _
    have hCR := CR.mk (g2 := zup g 2 (g 2 + 1)) hC2 hp rfl rfl rfl rfl rfl rfl rfl (fun j hj => by rw [eg_up (by decide)]; exact hA j hj)
    exact zs_iret (pc := 27) dC_openSegment_27 rfl rfl (by omega) (by omega) (⟨rfl, rfl, zfr.u (by omega) (by omega), hCR⟩)
def zjoinN (g : Nat → Nat) (s m : Nat) : Nat → Nat := fun j => if 6 ≤ j ∧ (j - 6) % 12 = 4 ∧ (j - 6) / 12 < m ∧ s < g j then g j - 1 else g j
theorem eg_jn {g : Nat → Nat} {s m k i : Nat} (hi : i < 12) : eg (zjoinN g s m) k i = if i = 4 ∧ k < m ∧ s < eg g k i then eg g k i - 1 else eg g k i := by
  unfold eg zjoinN
  rw [show (6 + 12 * k + i - 6) / 12 = k by omega, show (6 + 12 * k + i - 6) % 12 = i by omega]
  by_cases h : i = 4 ∧ k < m ∧ s < g (6 + 12 * k + i)
  · rw [if_pos h, if_pos ⟨by omega, h⟩]
  · rw [if_neg h, if_neg (fun q => h q.2)]
theorem zjoin_N {g : Nat → Nat} {s : Nat} : zjoin g s = zup (zjoinN g s (g 0)) 2 (g 2 - 1) := rfl
theorem zjn_lo {g : Nat → Nat} {s m j : Nat} (h : j < 6) : zjoinN g s m j = g j := by unfold zjoinN; rw [if_neg (by omega)]
theorem lp_C_joinWithNext {Γ : zG} {l : Launch} (hl : l.stackTraces = false) {d : Nat} {h : zH} {n : Nat} {B r s : Nat} {g : Nat → Nat} {p : Nat → Nat} (hp : PM p) (hI : IG B g) (hs : s < 5) : ∀ i j, i + j = g 0 → ∀ (h1 : zH) (Q : Nat → Nat → Nat), CH h1 r p Q (zFg g) → zfr r 42 h h1 → (∀ k, k < g 0 → zAg (Q (p k)) (eg (zjoinN g s j) k)) → Z Γ l mC_joinWithNext d 0 0 (zFin Γ (zCq r h n 7 (0, g 2 - 1, zjoin g s)) 0 0) 30 [some (.ref r), some (.int (nI s)), some (.int (nI j))] [] h1 n 0 0 := by
  have i0 := hI.1
  have i2 := hI.2.2.1
  have i3 := hI.2.2.2.1
  have e1 : zFg g 1 = g 0 := rfl
  have e3 : zFg g 3 = g 2 := rfl
  intro i
  induction i with
  | zero =>
    intro j hj h1 Q hC hfr hA
    have e9 : j = g 0 := by omega
    subst e9
    refine zs_iload_n (pc := 30) dC_joinWithNext_30 rfl ?_
    refine zs_aload_n (pc := 31) dC_joinWithNext_31 rfl ?_
    refine zs_get (pc := 32) dC_joinWithNext_32 fC_17 (by first | exact hC.1 | exact hC.2.1 | exact (hC.2.2 _ (hp.1 _ (by omega))).1 | exact zu_s) (by rfl) ?_
    refine zn_icmp_ge (pc := 35) 72 dC_joinWithNext_35 rfl (by omega) (by omega) (fun _ => ?_) (fun h9 => absurd h9 (by omega))
    refine zs_aload_n (pc := 72) dC_joinWithNext_72 rfl ?_
    refine zs_dup (pc := 73) dC_joinWithNext_73 rfl ?_
    refine zs_get (pc := 74) dC_joinWithNext_74 fC_24 (by first | exact hC.1 | exact hC.2.1 | exact (hC.2.2 _ (hp.1 _ (by omega))).1 | exact zu_s) (by rfl) ?_
    refine zs_iconst (pc := 77) dC_joinWithNext_77 zi_1 ?_
    refine zn_isub (pc := 78) dC_joinWithNext_78 (by omega) ?_
    refine zs_put (pc := 79) (fs2 := [_, _, _, _, _, _, _, _]) dC_joinWithNext_79 fC_24 (by first | exact hC.1 | exact hC.2.1 | exact (hC.2.2 _ (hp.1 _ (by omega))).1 | exact zu_s) (by rfl) (by rfl) (by exact Nat.le_of_ble_eq_true rfl) (by rfl) ?_
    refine zs_aload_n (pc := 82) dC_joinWithNext_82 rfl ?_
    refine zs_get (pc := 83) dC_joinWithNext_83 fC_24 (by first | exact hC.1 | exact hC.2.1 | exact (hC.2.2 _ (hp.1 _ (by omega))).1 | exact zu_s) (by rfl) ?_
    have hC2 : CH _ r p Q (fun j => if j = 3 then g 2 - 1 else zFg g j) := hC.setF _
    have hCR := CR.mk (g2 := zjoin g s) hC2 hp rfl rfl rfl rfl rfl rfl rfl (fun j hj => by rw [zjoin_N, eg_up (by decide)]; exact hA j hj)
    exact zs_iret (pc := 86) dC_joinWithNext_86 rfl rfl (by omega) (by omega) (⟨rfl, rfl, hfr.tr (zfr.u (by omega) (by omega)), hCR⟩)
  | succ i ih =>
    intro j hj h1 Q hC hfr hA
    have hpj := hp.1 j (by omega)
    have h0 := (hC.2.2 _ hpj).1
    have ok := hI.2.2.2.2.2.1 j (by omega)
    have e4 : Q (p j) 4 = eg g j 4 := by rw [hA j (by omega) 4 (by omega), eg_jn (by decide), if_neg (by omega)]
    have o4 := ok.2.2.2.2.1
    by_cases hb : s < eg g j 4
    · refine zs_iload_n (pc := 30) dC_joinWithNext_30 rfl ?_
      refine zs_aload_n (pc := 31) dC_joinWithNext_31 rfl ?_
      refine zs_get (pc := 32) dC_joinWithNext_32 fC_17 (by first | exact hC.1 | exact hC.2.1 | exact (hC.2.2 _ (hp.1 _ (by omega))).1 | exact zu_s) (by rfl) ?_
      refine zn_icmp_ge (pc := 35) 72 dC_joinWithNext_35 rfl (by omega) (by omega) (fun h9 => absurd h9 (by omega)) (fun _ => ?_)
      refine zs_aload_n (pc := 38) dC_joinWithNext_38 rfl ?_
      refine zs_get (pc := 39) dC_joinWithNext_39 fC_11 (by first | exact hC.1 | exact hC.2.1 | exact (hC.2.2 _ (hp.1 _ (by omega))).1 | exact zu_s) (by rfl) ?_
      refine zs_iload_n (pc := 42) dC_joinWithNext_42 rfl ?_
      refine zn_aald (pc := 43) (Or.inl rfl) dC_joinWithNext_43 (by first | exact hC.1 | exact hC.2.1 | exact (hC.2.2 _ (hp.1 _ (by omega))).1 | exact zu_s) (by omega) (by decide) (by rfl) ?_
      refine zs_get (pc := 44) dC_joinWithNext_44 fC_118 (by first | exact hC.1 | exact hC.2.1 | exact (hC.2.2 _ (hp.1 _ (by omega))).1 | exact zu_s) (by rfl) ?_
      refine zs_iload_n (pc := 47) dC_joinWithNext_47 rfl ?_
      refine zn_icmp_le (pc := 48) 66 dC_joinWithNext_48 rfl (by omega) (by omega) (fun h9 => absurd h9 (by omega)) (fun _ => ?_)
      refine zs_aload_n (pc := 51) dC_joinWithNext_51 rfl ?_
      refine zs_get (pc := 52) dC_joinWithNext_52 fC_11 (by first | exact hC.1 | exact hC.2.1 | exact (hC.2.2 _ (hp.1 _ (by omega))).1 | exact zu_s) (by rfl) ?_
      refine zs_iload_n (pc := 55) dC_joinWithNext_55 rfl ?_
      refine zn_aald (pc := 56) (Or.inl rfl) dC_joinWithNext_56 (by first | exact hC.1 | exact hC.2.1 | exact (hC.2.2 _ (hp.1 _ (by omega))).1 | exact zu_s) (by omega) (by decide) (by rfl) ?_
      refine zs_dup (pc := 57) dC_joinWithNext_57 rfl ?_
      refine zs_get (pc := 58) dC_joinWithNext_58 fC_118 (by first | exact hC.1 | exact hC.2.1 | exact (hC.2.2 _ (hp.1 _ (by omega))).1 | exact zu_s) (by rfl) ?_
      refine zs_iconst (pc := 61) dC_joinWithNext_61 zi_1 ?_
      refine zn_isub (pc := 62) dC_joinWithNext_62 (by omega) ?_
      refine zs_put (pc := 63) (fs2 := [_, _, _, _, _, _, _]) dC_joinWithNext_63 fC_118 (by first | exact hC.1 | exact hC.2.1 | exact (hC.2.2 _ (hp.1 _ (by omega))).1 | exact zu_s) (by rfl) (by rfl) (by exact Nat.le_of_ble_eq_true rfl) (by rfl) ?_
      refine zn_iinc (pc := 66) (ls2 := [_, _, _]) dC_joinWithNext_66 rfl (Nat.le_of_ble_eq_true rfl) rfl ?_
      refine zs_goto (pc := 69) 30 dC_joinWithNext_69 rfl ?_
      refine ih (j + 1) (by omega) _ _ (hC.setE hpj (q := zup (Q (p j)) 4 (Q (p j) 4 - 1)) (fun i => zup_n (by omega))) (hfr.tr (zfr.u (by omega) (by omega))) (fun k hk => ?_)
      by_cases e : k = j
      · subst e
        rw [zQu_s]
        intro a ha
        have a6 : eg (zjoinN g s (k + 1)) k 5 = eg g k 5 := by rw [eg_jn (by decide), if_neg (by omega)]
        have o6 := ok.2.2.2.2.2.1
        rw [a6] at ha
        rw [eg_jn (by omega)]
        by_cases a4 : a = 4
        · subst a4
          rw [zup_s, if_pos ⟨rfl, by omega, hb⟩, e4]
        · rw [zup_n a4, if_neg (by omega)]
          have a7 := hA k hk a (by rw [eg_jn (by decide), if_neg (by omega)]; exact ha)
          rw [a7, eg_jn (by omega), if_neg (by omega)]
      · rw [zQu_n (fun q9 => e (hp.2 _ _ (by omega) (by omega) q9))]
        have o6 := hI.s6 k hk
        refine (hA k hk).eqv (by rw [eg_jn (by decide), if_neg (by omega)]; exact o6) (fun a ha => ?_)
        rw [eg_jn ha, eg_jn ha]
        by_cases c1 : a = 4 ∧ k < j ∧ s < eg g k a
        · rw [if_pos c1, if_pos ⟨c1.1, by omega, c1.2.2⟩]
        · rw [if_neg c1, if_neg (fun q => c1 ⟨q.1, by omega, q.2.2⟩)]
    · refine zs_iload_n (pc := 30) dC_joinWithNext_30 rfl ?_
      refine zs_aload_n (pc := 31) dC_joinWithNext_31 rfl ?_
      refine zs_get (pc := 32) dC_joinWithNext_32 fC_17 (by first | exact hC.1 | exact hC.2.1 | exact (hC.2.2 _ (hp.1 _ (by omega))).1 | exact zu_s) (by rfl) ?_
      refine zn_icmp_ge (pc := 35) 72 dC_joinWithNext_35 rfl (by omega) (by omega) (fun h9 => absurd h9 (by omega)) (fun _ => ?_)
      refine zs_aload_n (pc := 38) dC_joinWithNext_38 rfl ?_
      refine zs_get (pc := 39) dC_joinWithNext_39 fC_11 (by first | exact hC.1 | exact hC.2.1 | exact (hC.2.2 _ (hp.1 _ (by omega))).1 | exact zu_s) (by rfl) ?_
      refine zs_iload_n (pc := 42) dC_joinWithNext_42 rfl ?_
      refine zn_aald (pc := 43) (Or.inl rfl) dC_joinWithNext_43 (by first | exact hC.1 | exact hC.2.1 | exact (hC.2.2 _ (hp.1 _ (by omega))).1 | exact zu_s) (by omega) (by decide) (by rfl) ?_
      refine zs_get (pc := 44) dC_joinWithNext_44 fC_118 (by first | exact hC.1 | exact hC.2.1 | exact (hC.2.2 _ (hp.1 _ (by omega))).1 | exact zu_s) (by rfl) ?_
      refine zs_iload_n (pc := 47) dC_joinWithNext_47 rfl ?_
      refine zn_icmp_le (pc := 48) 66 dC_joinWithNext_48 rfl (by omega) (by omega) (fun _ => ?_) (fun h9 => absurd h9 (by omega))
      refine zn_iinc (pc := 66) (ls2 := [_, _, _]) dC_joinWithNext_66 rfl (Nat.le_of_ble_eq_true rfl) rfl ?_
      refine zs_goto (pc := 69) 30 dC_joinWithNext_69 rfl ?_
      refine ih (j + 1) (by omega) _ _ hC hfr (fun k hk => ?_)
      have o6 := hI.s6 k hk
      refine (hA k hk).eqv (by rw [eg_jn (by decide), if_neg (by omega)]; exact o6) (fun a ha => ?_)
      rw [eg_jn ha, eg_jn ha]
      by_cases c1 : a = 4 ∧ k < j ∧ s < eg g k a
      · rw [if_pos c1, if_pos ⟨c1.1, by omega, c1.2.2⟩]
      · rw [if_neg c1, if_neg]
        rintro ⟨q1, q2, q3⟩
        apply c1
        by_cases e : k = j
        · subst e
          subst q1
          exact absurd q3 hb
        · exact ⟨q1, by omega, q3⟩
theorem s_C_joinWithNext {Γ : zG} {l : Launch} (hl : l.stackTraces = false) {d : Nat} {h : zH} {n : Nat} {B r : Nat} {g : Nat → Nat} (hR : CR h r g) (hI : IG B g) (hB : B < 2 ^ 20) (x : Int32) : zC Γ l d mC_joinWithNext [.ref r, .int x] h n 0 0 (zCq r h n 7 (zopJoin g x)) := by
  have hR9 := hR
  obtain ⟨p, Q, hC, hp, hA⟩ := hR
  have i2 := hI.2.2.1
  have i3 := hI.2.2.2.1
  have e3 : zFg g 3 = g 2 := rfl
  refine zC_of (ls := [some (.ref r), some (.int x), none]) hl (by decide +kernel) rfl (Nat.le_of_ble_eq_true rfl) rfl ?_
  unfold zopJoin
  cases hv : zV x 0 (g 2 - 1) with
  | false =>
    rw [if_neg (by decide)]
    have hv2 := zV_n (by omega) hv
    refine zs_iload_n (pc := 0) dC_joinWithNext_0 rfl ?_
    refine zs_if_lt (pc := 1) 12 dC_joinWithNext_1 rfl (fun hb => ?_) (fun hb => ?_)
    · refine zs_bipush (pc := 12) (v := -4) dC_joinWithNext_12 (by decide) ?_
      exact zs_iret (pc := 14) dC_joinWithNext_14 rfl rfl (by omega) (by omega) (⟨rfl, rfl, zfr.rf, hR9⟩)
    · obtain ⟨c, hc, rfl⟩ := nI_of hb
      refine zs_iload_n (pc := 4) dC_joinWithNext_4 rfl ?_
      refine zs_aload_n (pc := 5) dC_joinWithNext_5 rfl ?_
      refine zs_get (pc := 6) dC_joinWithNext_6 fC_24 (by first | exact hC.1 | exact hC.2.1 | exact (hC.2.2 _ (hp.1 _ (by omega))).1 | exact zu_s) (by rfl) ?_
      refine zn_icmp_lt (pc := 9) 15 dC_joinWithNext_9 rfl (by omega) (by omega) (fun h9 => absurd h9 (fun q => hv2 ⟨c, by omega, by omega, rfl⟩)) (fun _ => ?_)
      refine zs_bipush (pc := 12) (v := -4) dC_joinWithNext_12 (by decide) ?_
      exact zs_iret (pc := 14) dC_joinWithNext_14 rfl rfl (by omega) (by omega) (⟨rfl, rfl, zfr.rf, hR9⟩)
  | true =>
    rw [if_pos rfl]
    obtain ⟨v1, v2, v3⟩ := zV_y hv
    generalize x.toInt.toNat = s at v1 v2 v3 ⊢
    subst v3
    refine zs_iload_n (pc := 0) dC_joinWithNext_0 rfl ?_
    refine zs_if_lt (pc := 1) 12 dC_joinWithNext_1 rfl (fun h9 => absurd h9 (nI_pos (by omega))) (fun _ => ?_)
    refine zs_iload_n (pc := 4) dC_joinWithNext_4 rfl ?_
    refine zs_aload_n (pc := 5) dC_joinWithNext_5 rfl ?_
    refine zs_get (pc := 6) dC_joinWithNext_6 fC_24 (by first | exact hC.1 | exact hC.2.1 | exact (hC.2.2 _ (hp.1 _ (by omega))).1 | exact zu_s) (by rfl) ?_
    refine zn_icmp_lt (pc := 9) 15 dC_joinWithNext_9 rfl (by omega) (by omega) (fun _ => ?_) (fun h9 => absurd h9 (by omega))
    refine zs_iload_n (pc := 15) dC_joinWithNext_15 rfl ?_
    refine zs_aload_n (pc := 16) dC_joinWithNext_16 rfl ?_
    refine zs_get (pc := 17) dC_joinWithNext_17 fC_24 (by first | exact hC.1 | exact hC.2.1 | exact (hC.2.2 _ (hp.1 _ (by omega))).1 | exact zu_s) (by rfl) ?_
    refine zs_iconst (pc := 20) dC_joinWithNext_20 zi_1 ?_
    refine zn_isub (pc := 21) dC_joinWithNext_21 (by omega) ?_
    by_cases he : s + 1 = g 2
    · rw [if_pos he]
      refine zn_icmp_ne (pc := 22) 28 dC_joinWithNext_22 rfl (by omega) (by omega) (fun h9 => absurd h9 (by omega)) (fun _ => ?_)
      refine zs_bipush (pc := 25) (v := -3) dC_joinWithNext_25 (by decide) ?_
      exact zs_iret (pc := 27) dC_joinWithNext_27 rfl rfl (by omega) (by omega) (⟨rfl, rfl, zfr.rf, hR9⟩)
    · rw [if_neg he]
      refine zn_icmp_ne (pc := 22) 28 dC_joinWithNext_22 rfl (by omega) (by omega) (fun _ => ?_) (fun h9 => absurd h9 (by omega))
      refine zs_iconst (pc := 28) dC_joinWithNext_28 zi_0 ?_
      refine zs_istore_n (pc := 29) (ls2 := [_, _, _]) dC_joinWithNext_29 (Nat.le_of_ble_eq_true rfl) rfl ?_
      refine lp_C_joinWithNext hl hp hI (by omega) (g 0) 0 rfl h Q hC zfr.rf (fun k hk => (hA k hk).eqv (hI.s6 k hk) (fun a ha => ?_))
      rw [eg_jn ha, if_neg (by omega)]
theorem zin_ins {q : Nat → Nat} {v c : Nat} (h : zin q c = true) : zin (zins q v) c = true := by
  obtain ⟨i, h1, h2⟩ := zany_iff.mp h
  have h3 : q (6 + i) = c := by simpa using h2
  apply zany_iff.mpr
  have hp := zpos_le q v (q 5)
  by_cases e : i < zpos q v (q 5)
  · refine ⟨i, by rw [zins_5]; omega, ?_⟩
    have h4 : zins q v (6 + i) = q (6 + i) := by unfold zins; rw [if_neg (by omega), if_pos (by omega)]
    show (zins q v (6 + i) == c) = true
    rw [h4, h3]
    exact beq_self_eq_true c
  · refine ⟨i + 1, by rw [zins_5]; omega, ?_⟩
    have h4 : zins q v (6 + (i + 1)) = q (6 + i) := by
      unfold zins
      rw [if_neg (by omega), if_neg (by omega), if_neg (by omega), if_pos (by omega)]
      congr 1
    show (zins q v (6 + (i + 1)) == c) = true
    rw [h4, h3]
    exact beq_self_eq_true c
theorem zin_abs {q q2 : Nat → Nat} {c : Nat} (h : zin q c = true) : ∀ n, zin (zabs q q2 n) c = true := by
  intro n
  induction n with
  | zero => exact h
  | succ n ih =>
    rw [zabs_s]
    split
    · exact ih
    · exact zin_ins ih
theorem zabs_sz {q q2 : Nat → Nat} : ∀ n, zabs q q2 n 5 + zcnt (fun i => zin q (q2 (6 + i))) n ≤ q 5 + n := by
  intro n
  induction n with
  | zero => exact Nat.le_refl _
  | succ n ih =>
    cases hz : zin q (q2 (6 + n)) with
    | true =>
      rw [zcnt_t (p := fun i => zin q (q2 (6 + i))) hz, zabs_s, if_pos (zin_abs hz n)]
      omega
    | false =>
      rw [zcnt_f (p := fun i => zin q (q2 (6 + i))) hz, zabs_s]
      split
      · omega
      · rw [zins_5]; omega
theorem s_C_mergeInto {Γ : zG} {l : Launch} (hl : l.stackTraces = false) {d : Nat} (hd : 2 ≤ d) {h : zH} {n : Nat} {B r : Nat} {g : Nat → Nat} (hR : CR h r g) (hI : IG B g) (hB : B < 2 ^ 20) (x y : Int32) : zC Γ l d mC_mergeInto [.ref r, .int x, .int y] h n 0 0 (zCq r h n 5 (zopMerge g x y)) := by
  have hR9 := hR
  obtain ⟨p, Q, hC, hp, hA⟩ := hR
  have i0 := hI.1
  refine zC_of (ls := [some (.ref r), some (.int x), some (.int y), none, none]) hl (by decide +kernel) rfl (Nat.le_of_ble_eq_true rfl) rfl ?_
  unfold zopMerge
  cases hH : zHas g x with
  | false =>
    rw [if_neg (by rintro ⟨q, -⟩; cases q)]
    cases hH2 : zHas g y with
    | false =>
      refine zs_aload_n (pc := 0) dC_mergeInto_0 rfl ?_
      refine zs_iload_n (pc := 1) dC_mergeInto_1 rfl ?_
      refine zcV1_1 (pc := 2) (d2 := d - 1) (s_C_find_gn hl hC hp hA hI hH) dC_mergeInto_2 kC_84 mdC_find miC_find mvC_find rfl (by first | exact hC.1 | exact h1.1 | exact h2.1 | exact hC2.1) rfl (Nat.le_of_ble_eq_true rfl) (by omega) (by omega) (by omega) ?_
      refine zs_astore_nN (pc := 5) (ls2 := [_, _, _, _, _]) dC_mergeInto_5 (Nat.le_of_ble_eq_true rfl) rfl ?_
      refine zs_aload_n (pc := 6) dC_mergeInto_6 rfl ?_
      refine zs_iload_n (pc := 7) dC_mergeInto_7 rfl ?_
      refine zcV1_1 (pc := 8) (d2 := d - 1) (s_C_find_gn hl hC hp hA hI hH2) dC_mergeInto_8 kC_84 mdC_find miC_find mvC_find rfl (by first | exact hC.1 | exact h1.1 | exact h2.1 | exact hC2.1) rfl (Nat.le_of_ble_eq_true rfl) (by omega) (by omega) (by omega) ?_
      refine zs_astoreN (pc := 11) (ls2 := [_, _, _, _, _]) dC_mergeInto_11 (Nat.le_of_ble_eq_true rfl) rfl ?_
      refine zs_aload_nN (pc := 13) dC_mergeInto_13 rfl ?_
      refine zs_ifnullN (pc := 14) 22 dC_mergeInto_14 rfl ?_
      refine zs_iconst (pc := 22) dC_mergeInto_22 zi_m1 ?_
      exact zs_iret (pc := 23) dC_mergeInto_23 rfl rfl (by omega) (by omega) (⟨rfl, rfl, zfr.rf, hR9⟩)
    | true =>
      obtain ⟨f1, f2, f3⟩ := zHas_y hH2
      refine zs_aload_n (pc := 0) dC_mergeInto_0 rfl ?_
      refine zs_iload_n (pc := 1) dC_mergeInto_1 rfl ?_
      refine zcV1_1 (pc := 2) (d2 := d - 1) (s_C_find_gn hl hC hp hA hI hH) dC_mergeInto_2 kC_84 mdC_find miC_find mvC_find rfl (by first | exact hC.1 | exact h1.1 | exact h2.1 | exact hC2.1) rfl (Nat.le_of_ble_eq_true rfl) (by omega) (by omega) (by omega) ?_
      refine zs_astore_nN (pc := 5) (ls2 := [_, _, _, _, _]) dC_mergeInto_5 (Nat.le_of_ble_eq_true rfl) rfl ?_
      refine zs_aload_n (pc := 6) dC_mergeInto_6 rfl ?_
      refine zs_iload_n (pc := 7) dC_mergeInto_7 rfl ?_
      refine zcV1_1 (pc := 8) (d2 := d - 1) (s_C_find_k hl hC hp hA hI f1 f2 f3) dC_mergeInto_8 kC_84 mdC_find miC_find mvC_find rfl (by first | exact hC.1 | exact h1.1 | exact h2.1 | exact hC2.1) rfl (Nat.le_of_ble_eq_true rfl) (by omega) (by omega) (by omega) ?_
      refine zs_astore (pc := 11) (ls2 := [_, _, _, _, _]) dC_mergeInto_11 (Nat.le_of_ble_eq_true rfl) rfl ?_
      refine zs_aload_nN (pc := 13) dC_mergeInto_13 rfl ?_
      refine zs_ifnullN (pc := 14) 22 dC_mergeInto_14 rfl ?_
      refine zs_iconst (pc := 22) dC_mergeInto_22 zi_m1 ?_
      exact zs_iret (pc := 23) dC_mergeInto_23 rfl rfl (by omega) (by omega) (⟨rfl, rfl, zfr.rf, hR9⟩)
  | true =>
    obtain ⟨f1, f2, f3⟩ := zHas_y hH
    cases hH2 : zHas g y with
    | false =>
      rw [if_neg (by rintro ⟨-, q⟩; cases q)]
      refine zs_aload_n (pc := 0) dC_mergeInto_0 rfl ?_
      refine zs_iload_n (pc := 1) dC_mergeInto_1 rfl ?_
      refine zcV1_1 (pc := 2) (d2 := d - 1) (s_C_find_k hl hC hp hA hI f1 f2 f3) dC_mergeInto_2 kC_84 mdC_find miC_find mvC_find rfl (by first | exact hC.1 | exact h1.1 | exact h2.1 | exact hC2.1) rfl (Nat.le_of_ble_eq_true rfl) (by omega) (by omega) (by omega) ?_
      refine zs_astore_n (pc := 5) (ls2 := [_, _, _, _, _]) dC_mergeInto_5 (Nat.le_of_ble_eq_true rfl) rfl ?_
      refine zs_aload_n (pc := 6) dC_mergeInto_6 rfl ?_
      refine zs_iload_n (pc := 7) dC_mergeInto_7 rfl ?_
      refine zcV1_1 (pc := 8) (d2 := d - 1) (s_C_find_gn hl hC hp hA hI hH2) dC_mergeInto_8 kC_84 mdC_find miC_find mvC_find rfl (by first | exact hC.1 | exact h1.1 | exact h2.1 | exact hC2.1) rfl (Nat.le_of_ble_eq_true rfl) (by omega) (by omega) (by omega) ?_
      refine zs_astoreN (pc := 11) (ls2 := [_, _, _, _, _]) dC_mergeInto_11 (Nat.le_of_ble_eq_true rfl) rfl ?_
      refine zs_aload_n (pc := 13) dC_mergeInto_13 rfl ?_
      refine zs_ifnull (pc := 14) dC_mergeInto_14 ?_
      refine zs_aloadN (pc := 17) dC_mergeInto_17 rfl ?_
      refine zs_ifnonnullN (pc := 19) dC_mergeInto_19 ?_
      refine zs_iconst (pc := 22) dC_mergeInto_22 zi_m1 ?_
      exact zs_iret (pc := 23) dC_mergeInto_23 rfl rfl (by omega) (by omega) (⟨rfl, rfl, zfr.rf, hR9⟩)
    | true =>
      rw [if_pos ⟨rfl, rfl⟩]
      obtain ⟨e1, e2, e3⟩ := zHas_y hH2
      generalize zAt g x = k at f1 f2 f3 ⊢
      generalize zAt g y = t at e1 e2 e3 ⊢
      refine zs_aload_n (pc := 0) dC_mergeInto_0 rfl ?_
      refine zs_iload_n (pc := 1) dC_mergeInto_1 rfl ?_
      refine zcV1_1 (pc := 2) (d2 := d - 1) (s_C_find_k hl hC hp hA hI f1 f2 f3) dC_mergeInto_2 kC_84 mdC_find miC_find mvC_find rfl (by first | exact hC.1 | exact h1.1 | exact h2.1 | exact hC2.1) rfl (Nat.le_of_ble_eq_true rfl) (by omega) (by omega) (by omega) ?_
      refine zs_astore_n (pc := 5) (ls2 := [_, _, _, _, _]) dC_mergeInto_5 (Nat.le_of_ble_eq_true rfl) rfl ?_
      refine zs_aload_n (pc := 6) dC_mergeInto_6 rfl ?_
      refine zs_iload_n (pc := 7) dC_mergeInto_7 rfl ?_
      refine zcV1_1 (pc := 8) (d2 := d - 1) (s_C_find_k hl hC hp hA hI e1 e2 e3) dC_mergeInto_8 kC_84 mdC_find miC_find mvC_find rfl (by first | exact hC.1 | exact h1.1 | exact h2.1 | exact hC2.1) rfl (Nat.le_of_ble_eq_true rfl) (by omega) (by omega) (by omega) ?_
      refine zs_astore (pc := 11) (ls2 := [_, _, _, _, _]) dC_mergeInto_11 (Nat.le_of_ble_eq_true rfl) rfl ?_
      refine zs_aload_n (pc := 13) dC_mergeInto_13 rfl ?_
      refine zs_ifnull (pc := 14) dC_mergeInto_14 ?_
      refine zs_aload (pc := 17) dC_mergeInto_17 rfl ?_
      refine zs_ifnonnull (pc := 19) 24 dC_mergeInto_19 rfl ?_
      refine zs_iload_n (pc := 24) dC_mergeInto_24 rfl ?_
      refine zs_iload_n (pc := 25) dC_mergeInto_25 rfl ?_
      by_cases hxy : x = y
      · rw [if_pos hxy]
        refine zs_icmp_ne (pc := 26) 32 dC_mergeInto_26 rfl (fun h9 => absurd h9 (fun q => q hxy)) (fun _ => ?_)
        refine zs_bipush (pc := 29) (v := -2) dC_mergeInto_29 (by decide) ?_
        exact zs_iret (pc := 31) dC_mergeInto_31 rfl rfl (by omega) (by omega) (⟨rfl, rfl, zfr.rf, hR9⟩)
      · rw [if_neg hxy]
        have hkt : k ≠ t := fun q => hxy (by rw [← f2, ← e2, q])
        have hs := hp.1 k (by omega)
        have ht := hp.1 t (by omega)
        have hpn : p k ≠ p t := fun q => hkt (hp.2 _ _ (by omega) (by omega) q)
        have h1 := hC.2.2 (p k) hs
        have h2 := hC.2.2 (p t) ht
        have hA1 := hA k f1
        have hA2 := hA t e1
        have hb1 := hA1.b (hI.b hB f1)
        have hb2 := hA2.b (hI.b hB e1)
        have s1 := hA1.e5
        have s2 := hA2.e5
        have l1 := hI.s6 k f1
        have l2 := hI.s6 t e1
        have hsh : zshare (Q (p k)) (Q (p t)) = zshare (eg g k) (eg g t) := hA1.share hA2
        have hle : zshare (Q (p k)) (Q (p t)) ≤ Q (p k) 5 := zcnt_le _ _
        have hsz : zabs (Q (p t)) (Q (p k)) (Q (p k) 5) 5 + zshare (Q (p k)) (Q (p t)) ≤ Q (p t) 5 + Q (p k) 5 := zabs_sz (Q (p k) 5)
        by_cases hbig : 6 < eg g k 5 + eg g t 5 - zshare (eg g k) (eg g t)
        · rw [if_pos hbig]
          refine zs_icmp_ne (pc := 26) 32 dC_mergeInto_26 rfl (fun _ => ?_) (fun h9 => absurd h9 (hxy))
          refine zs_aload_n (pc := 32) dC_mergeInto_32 rfl ?_
          refine zs_get (pc := 33) dC_mergeInto_33 fC_95 (by first | exact zu_s | exact h1.1 | exact h2.1 | exact g1.1 | exact g2.1 | exact hC2.1) (by rfl) ?_
          refine zs_aload (pc := 36) dC_mergeInto_36 rfl ?_
          refine zs_get (pc := 38) dC_mergeInto_38 fC_95 (by first | exact zu_s | exact h1.1 | exact h2.1 | exact g1.1 | exact g2.1 | exact hC2.1) (by rfl) ?_
          refine zn_iadd (pc := 41) dC_mergeInto_41 ?_
          refine zs_aload_n (pc := 42) dC_mergeInto_42 rfl ?_
          refine zs_aload (pc := 43) dC_mergeInto_43 rfl ?_
          refine zcV1_1 (pc := 45) (d2 := d - 1) (s_E_countShared hl (by omega) hb1 h1.1 h1.2 hb2 h2.1 h2.2) dC_mergeInto_45 kC_111 mdE_countShared miE_countShared mvE_countShared rfl (by first | exact hC.1 | exact h1.1 | exact h2.1 | exact hC2.1) rfl (Nat.le_of_ble_eq_true rfl) (by omega) (by omega) (by omega) ?_
          refine zn_isub (pc := 48) dC_mergeInto_48 (by omega) ?_
          refine zs_bipush (pc := 49) dC_mergeInto_49 (zi_b 6 (by decide)) ?_
          refine zn_icmp_le (pc := 51) 57 dC_mergeInto_51 rfl (by omega) (by omega) (fun h9 => absurd h9 (by omega)) (fun _ => ?_)
          refine zs_bipush (pc := 54) (v := -3) dC_mergeInto_54 (by decide) ?_
          exact zs_iret (pc := 56) dC_mergeInto_56 rfl rfl (by omega) (by omega) (⟨rfl, rfl, zfr.rf, hR9⟩)
        · rw [if_neg hbig]
          have hf : zabs (Q (p t)) (Q (p k)) (Q (p k) 5) 5 ≤ 6 := by omega
          have hmg : zAg (zmrg (Q (p t)) (Q (p k))) (zmrg (eg g t) (eg g k)) := hA2.mrg hA1
          have m6 : zmrg (eg g t) (eg g k) 5 ≤ 6 := by
            have := hmg.e5
            have e9 : zmrg (Q (p t)) (Q (p k)) 5 = zabs (Q (p t)) (Q (p k)) (Q (p k) 5) 5 := rfl
            omega
          have hC2 := hC.set ht (zmrg (Q (p t)) (Q (p k)))
          have g1 := hC2.2.2 (p k) hs
          have g2 := hC2.2.2 (p t) ht
          rw [zQu_n hpn] at g1
          rw [zQu_s] at g2
          have hA3 := zA.put hp hA hI.s6 e1 i0 hmg m6
          have hlo : ∀ j, j < 6 → zput g t (zmrg (eg g t) (eg g k)) j = g j := fun j hj => zput_lo hj
          have hid0 : ∀ i, i < g 0 → zQu Q (p t) (zmrg (Q (p t)) (Q (p k))) (p i) 0 = eg g i 0 := fun i hi => by
            by_cases e : i = t
            · subst e
              rw [zQu_s]
              have e9 : zmrg (Q (p i)) (Q (p k)) 0 = zabs (Q (p i)) (Q (p k)) (Q (p k) 5) 0 := rfl
              rw [e9, zabs_lo (by decide), hA2 0 (by omega)]
            · rw [zQu_n (fun q9 => e (hp.2 _ _ (by omega) (by omega) q9)), hA i hi 0 (by omega)]
          have hid : ∀ i, i < zFg g 1 → zQu Q (p t) (zmrg (Q (p t)) (Q (p k))) (p i) 0 < 2 ^ 31 := fun i hi => by
            have := (hI.b hB (j := i) hi).1
            rw [hid0 i hi]
            omega
          have hne : ∀ i, i < zFg g 1 → i ≠ k → zQu Q (p t) (zmrg (Q (p t)) (Q (p k))) (p i) 0 ≠ zQu Q (p t) (zmrg (Q (p t)) (Q (p k))) (p k) 0 := fun i hi hik => by
            rw [hid0 i hi, hid0 k f1]
            exact hI.ne hi f1 hik
          have hA4 := CR.lv (g := zput g t (zmrg (eg g t) (eg g k))) (k := k) (by rw [hlo 0 (by decide)]; exact hA3) (by
            rw [hlo 0 (by decide)]
            intro j hj
            by_cases e : j = t
            · subst e; rw [eg_put_s (by decide)]; exact m6
            · rw [eg_put_o e (by decide)]; exact hI.s6 j hj) (by rw [hlo 0 (by decide)]; exact f1) (by rw [hlo 0 (by decide)]; exact i0)
          refine zs_icmp_ne (pc := 26) 32 dC_mergeInto_26 rfl (fun _ => ?_) (fun h9 => absurd h9 (hxy))
          refine zs_aload_n (pc := 32) dC_mergeInto_32 rfl ?_
          refine zs_get (pc := 33) dC_mergeInto_33 fC_95 (by first | exact zu_s | exact h1.1 | exact h2.1 | exact g1.1 | exact g2.1 | exact hC2.1) (by rfl) ?_
          refine zs_aload (pc := 36) dC_mergeInto_36 rfl ?_
          refine zs_get (pc := 38) dC_mergeInto_38 fC_95 (by first | exact zu_s | exact h1.1 | exact h2.1 | exact g1.1 | exact g2.1 | exact hC2.1) (by rfl) ?_
          refine zn_iadd (pc := 41) dC_mergeInto_41 ?_
          refine zs_aload_n (pc := 42) dC_mergeInto_42 rfl ?_
          refine zs_aload (pc := 43) dC_mergeInto_43 rfl ?_
          refine zcV1_1 (pc := 45) (d2 := d - 1) (s_E_countShared hl (by omega) hb1 h1.1 h1.2 hb2 h2.1 h2.2) dC_mergeInto_45 kC_111 mdE_countShared miE_countShared mvE_countShared rfl (by first | exact hC.1 | exact h1.1 | exact h2.1 | exact hC2.1) rfl (Nat.le_of_ble_eq_true rfl) (by omega) (by omega) (by omega) ?_
          refine zn_isub (pc := 48) dC_mergeInto_48 (by omega) ?_
          refine zs_bipush (pc := 49) dC_mergeInto_49 (zi_b 6 (by decide)) ?_
          refine zn_icmp_le (pc := 51) 57 dC_mergeInto_51 rfl (by omega) (by omega) (fun _ => ?_) (fun h9 => absurd h9 (by omega))
          refine zs_aload (pc := 57) dC_mergeInto_57 rfl ?_
          refine zs_aload_n (pc := 59) dC_mergeInto_59 rfl ?_
          refine zcV0_1 (pc := 60) (d2 := d - 1) (s_E_absorb hl (by omega) hb2 h2.1 h2.2 (by omega) hb1 h1.1 h1.2 (by omega) (by omega) (by omega) (by omega) hf) dC_mergeInto_60 kC_115 mdE_absorb miE_absorb mvE_absorb rfl (by first | exact hC.1 | exact h1.1 | exact h2.1 | exact hC2.1) rfl (Nat.le_of_ble_eq_true rfl) (by omega) (by omega) (by omega) ?_
          refine zs_aload_n (pc := 63) dC_mergeInto_63 rfl ?_
          refine zs_aload_n (pc := 64) dC_mergeInto_64 rfl ?_
          refine zcV0_1 (pc := 65) (d2 := d - 1) (s_C_discard hl hC2 hp i0 f1 hid hne) dC_mergeInto_65 kC_105 mdC_discard miC_discard mvC_discard rfl (by first | exact hC.1 | exact h1.1 | exact h2.1 | exact hC2.1) rfl (Nat.le_of_ble_eq_true rfl) (by omega) (by omega) (by omega) ?_
          refine zs_aload_n (pc := 68) dC_mergeInto_68 rfl ?_
          refine zs_dup (pc := 69) dC_mergeInto_69 rfl ?_
          refine zs_get (pc := 70) dC_mergeInto_70 fC_33 (by first | exact zu_s | exact h1.1 | exact h2.1 | exact g1.1 | exact g2.1 | exact hC2.1) (by rfl) ?_
          refine zs_iconst (pc := 73) dC_mergeInto_73 zi_1 ?_
          refine zn_iadd (pc := 74) dC_mergeInto_74 ?_
          refine zs_putU (pc := 75) (fs2 := [_, _, _, _, _, _, _, _]) dC_mergeInto_75 fC_33 (by rfl) (by rfl) (by exact Nat.le_of_ble_eq_true rfl) (by rfl) ?_
          refine zs_aload (pc := 78) dC_mergeInto_78 rfl ?_
          refine zs_get (pc := 80) dC_mergeInto_80 fC_95 (by rw [zu_n (by omega), zu_n (by omega)]; exact g2.1) (by rfl) ?_
          have hC3 : CH _ r (zrot p k (g 0)) _ (fun j => if j = 6 then g 4 + 1 else zF1 (zFg g) 1 (g 0 - 1) j) := (hC2.setP (zrot p k (g 0))).setF _
          have w0 : zlv (zput g t (zmrg (eg g t) (eg g k))) k 0 = g 0 - 1 := by rw [zlv_lo (by decide), if_pos rfl, hlo 0 (by decide)]
          have w1 : ∀ j, j < 6 → j ≠ 0 → zlv (zput g t (zmrg (eg g t) (eg g k))) k j = g j := fun j hj h0 => by rw [zlv_lo hj, if_neg h0, hlo j hj]
          have hCR := CR.mk (g2 := zup (zlv (zput g t (zmrg (eg g t) (eg g k))) k) 4 (g 4 + 1)) hC3 (hp.rot f1 i0) w0.symm (w1 1 (by decide) (by decide)).symm (w1 2 (by decide) (by decide)).symm (w1 1 (by decide) (by decide)).symm (w1 3 (by decide) (by decide)).symm rfl (w1 5 (by decide) (by decide)).symm (fun j hj => by
            rw [eg_up (by decide)]
            have h9 := hA4 j
            rw [hlo 0 (by decide)] at h9
            exact h9 (by rw [zup_n (by decide), w0] at hj; exact hj))
          exact zs_iret (pc := 83) dC_mergeInto_83 rfl rfl (by omega) (by omega) (⟨by show _ = Sum.inl (some (Value.int (nI (zmrg (eg g t) (eg g k) 5)))); rw [← hmg.e5], rfl, (zfr.E ht).tr zfr.disc, hCR⟩)

