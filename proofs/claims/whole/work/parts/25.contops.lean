/-! the contents' commands -/
theorem nI_ne {a b : Nat} (ha : a < 2 ^ 31) (hb : b < 2 ^ 31) (h : a ≠ b) : nI a ≠ nI b := fun e => h ((nI_eq ha hb).mp e)
theorem s_C_find_k {Γ : zG} {l : Launch} (hl : l.stackTraces = false) {d : Nat} {h : zH} {n : Nat} {B r k : Nat} {g : Nat → Nat} {p : Nat → Nat} {Q : Nat → Nat → Nat} (hC : CH h r p Q (zFg g)) (hp : PM p) (hA : ∀ j, j < g 0 → zAg (Q (p j)) (eg g j)) (hI : IG B g) {x : Int32} (f1 : k < g 0) (f2 : nI (eg g k 0) = x) (f3 : ∀ i, i < k → nI (eg g i 0) ≠ x) : zC Γ l d mC_find [.ref r, .int x] h n 0 0 (zR (some (.ref (r + 2 + 2 * p k))) h n) := s_C_find_y hl hC hp hI.1 f1 (by rw [hA _ f1 0 (by omega)]; exact f2) (fun i hi => by rw [hA i (by omega) 0 (by omega)]; exact f3 i hi)
theorem s_C_find_gn {Γ : zG} {l : Launch} (hl : l.stackTraces = false) {d : Nat} {h : zH} {n : Nat} {B r : Nat} {g : Nat → Nat} {p : Nat → Nat} {Q : Nat → Nat → Nat} (hC : CH h r p Q (zFg g)) (hp : PM p) (hA : ∀ j, j < g 0 → zAg (Q (p j)) (eg g j)) (hI : IG B g) {x : Int32} (hx : zHas g x = false) : zC Γ l d mC_find [.ref r, .int x] h n 0 0 (zR (some .null) h n) := by
  have h3 := zHas_n hx
  exact s_C_find_n hl hC hp hI.1 (fun i hi => by rw [hA i hi 0 (by omega)]; exact h3 i hi)
theorem CR.mk {h : zH} {r : Nat} {p : Nat → Nat} {Q : Nat → Nat → Nat} {F g2 : Nat → Nat} (hC : CH h r p Q F) (hp : PM p) (e1 : F 1 = g2 0) (e2 : F 2 = g2 1) (e3 : F 3 = g2 2) (e4 : F 4 = g2 1) (e5 : F 5 = g2 3) (e6 : F 6 = g2 4) (e7 : F 7 = g2 5) (hA : ∀ j, j < g2 0 → zAg (Q (p j)) (eg g2 j)) : CR h r g2 := by
  refine ⟨p, Q, ?_, hp, hA⟩
  have e : zCo F (r + 1) = zCo (zFg g2) (r + 1) := by
    unfold zCo
    rw [e1, e2, e3, e4, e5, e6, e7]
    rfl
  exact ⟨by rw [hC.1, e], hC.2⟩
theorem zAg.eqv {q q2 q3 : Nat → Nat} (h : zAg q q2) (h5 : q2 5 ≤ 6) (e : ∀ i, i < 12 → q3 i = q2 i) : zAg q q3 := by
  intro i hi
  rw [e 5 (by decide)] at hi
  rw [e i (by omega)]
  exact h i hi
theorem eg_up {g : Nat → Nat} {i v j : Nat} (h : i < 6) : eg (zup g i v) j = eg g j := by
  funext a
  unfold eg zup
  rw [if_neg (by omega)]
theorem zadd_lo {g : Nat → Nat} {w j : Nat} (h : j < 6) : zadd g w j = if j = 0 then g 0 + 1 else if j = 1 then g 1 + 1 else g j := by
  unfold zadd
  split
  · rfl
  · split
    · rfl
    · rw [if_neg (by omega), if_neg (by omega), if_neg (by omega)]
theorem eg_add_o {g : Nat → Nat} {w j i : Nat} (h : j ≠ g 0) (hi : i < 12) : eg (zadd g w) j i = eg g j i := by
  unfold eg zadd
  rw [if_neg (by omega), if_neg (by omega), if_neg (by omega), if_neg (by omega), if_neg (by omega)]
theorem eg_add_s {g : Nat → Nat} {w i : Nat} : eg (zadd g w) (g 0) i = if i = 0 then g 1 else if i = 1 then w else if i = 4 then g 2 - 1 else eg g (g 0) i := by
  unfold eg zadd
  rw [if_neg (by omega), if_neg (by omega)]
  by_cases h0 : i = 0
  · rw [if_pos (by omega), if_pos h0]
  · rw [if_neg (by omega), if_neg h0]
    by_cases h1 : i = 1
    · rw [if_pos (by omega), if_pos h1]
    · rw [if_neg (by omega), if_neg h1]
      by_cases h4 : i = 4
      · rw [if_pos (by omega), if_pos h4]
      · rw [if_neg (by omega), if_neg h4]
theorem zput_lo {g q : Nat → Nat} {k j : Nat} (h : j < 6) : zput g k q j = g j := by unfold zput; rw [if_neg (by omega)]
theorem eg_put_s {g q : Nat → Nat} {k i : Nat} (hi : i < 12) : eg (zput g k q) k i = q i := by
  unfold eg zput
  rw [if_pos (by omega)]
  congr 1
  omega
theorem eg_put_o {g q : Nat → Nat} {k j i : Nat} (hj : j ≠ k) (hi : i < 12) : eg (zput g k q) j i = eg g j i := by
  unfold eg zput
  rw [if_neg (by omega)]
theorem zlv_lo {g : Nat → Nat} {k j : Nat} (h : j < 6) : zlv g k j = if j = 0 then g 0 - 1 else g j := by
  unfold zlv
  split
  · rfl
  · rw [if_pos (by omega)]
theorem eg_lv_l {g : Nat → Nat} {k j i : Nat} (hj : j < k) (hi : i < 12) : eg (zlv g k) j i = eg g j i := by
  unfold eg zlv
  rw [if_neg (by omega), if_pos (by omega)]
theorem eg_lv_h {g : Nat → Nat} {k j i : Nat} (hj : k ≤ j) (h19 : j < 19) (hi : i < 12) : eg (zlv g k) j i = eg g (j + 1) i := by
  unfold eg zlv
  rw [if_neg (by omega), if_neg (by omega), if_pos (by omega)]
  congr 1
  omega
theorem CR.put {h : zH} {r k : Nat} {p : Nat → Nat} {Q : Nat → Nat → Nat} {g q q2 : Nat → Nat} (hC : CH h r p Q (zFg g)) (hp : PM p) (hA : ∀ j, j < g 0 → zAg (Q (p j)) (eg g j)) (h6 : ∀ j, j < g 0 → eg g j 5 ≤ 6) (hk : k < g 0) (h20 : g 0 ≤ 20) (hq : zAg q q2) (hq6 : q2 5 ≤ 6) : CR (zEh h (r + 2 + 2 * p k) (r + 3 + 2 * p k) q) r (zput g k q2) := by
  refine CR.mk (hC.set (hp.1 k (by omega)) q) hp ?_ ?_ ?_ ?_ ?_ ?_ ?_ (fun j hj => ?_)
  iterate 7 rw [zput_lo (by decide)]; rfl
  rw [zput_lo (by decide)] at hj
  by_cases e : j = k
  · subst e
    rw [zQu_s]
    exact hq.eqv hq6 (fun i hi => eg_put_s hi)
  · rw [zQu_n (fun q9 => e (hp.2 _ _ (by omega) (by omega) q9))]
    exact (hA j hj).eqv (h6 j hj) (fun i hi => eg_put_o e hi)
theorem CR.lv {k : Nat} {p : Nat → Nat} {Q : Nat → Nat → Nat} {g : Nat → Nat} (hA : ∀ j, j < g 0 → zAg (Q (p j)) (eg g j)) (h6 : ∀ j, j < g 0 → eg g j 5 ≤ 6) (hk : k < g 0) (h20 : g 0 ≤ 20) : ∀ j, j < g 0 - 1 → zAg (Q (zrot p k (g 0) j)) (eg (zlv g k) j) := by
  intro j hj
  unfold zrot
  by_cases e : k ≤ j
  · rw [if_pos (by omega)]
    exact (hA (j + 1) (by omega)).eqv (h6 _ (by omega)) (fun i hi => eg_lv_h e (by omega) hi)
  · rw [if_neg (by omega), if_neg (by omega)]
    exact (hA j (by omega)).eqv (h6 _ (by omega)) (fun i hi => eg_lv_l (by omega) hi)
theorem IG.s6 {B : Nat} {g : Nat → Nat} (h : IG B g) : ∀ j, j < g 0 → eg g j 5 ≤ 6 := fun j hj => (h.2.2.2.2.2.1 j hj).2.2.2.2.2.1
theorem zge0 {x : Int32} {a : Nat} (ha : a < 2 ^ 31) (h : ¬ x < nI a) : ¬ x < 0 := by
  intro q
  apply h
  have h9 := Int32.lt_iff_toInt_lt.mp q
  apply Int32.lt_iff_toInt_lt.mpr
  rw [nI_toInt ha]
  have e0 : (0 : Int32).toInt = 0 := by decide
  rw [e0] at h9
  omega
theorem s_C_putEntry {Γ : zG} {l : Launch} (hl : l.stackTraces = false) {d : Nat} (hd : 1 ≤ d) {h : zH} {n : Nat} {B r : Nat} {g : Nat → Nat} (hR : CR h r g) (hI : IG B g) (hB : B < 2 ^ 20) (x : Int32) : zC Γ l d mC_putEntry [.ref r, .int x] h n 0 0 (zCq r h n 0 (zopAdd g x)) := by
  have hR9 := hR
  obtain ⟨p, Q, hC, hp, hA⟩ := hR
  have i0 := hI.1
  have i1 := hI.2.1
  have i2 := hI.2.2.1
  have i3 := hI.2.2.2.1
  have e1 : zFg g 1 = g 0 := rfl
  have e2 : zFg g 2 = g 1 := rfl
  have e3 : zFg g 3 = g 2 := rfl
  have e4 : zFg g 4 = g 1 := rfl
  refine zC_of (ls := [some (.ref r), some (.int x), none]) hl (by decide +kernel) rfl (Nat.le_of_ble_eq_true rfl) rfl ?_
  unfold zopAdd
  cases hv : zV x 1 9 with
  | false =>
    rw [if_neg (by decide)]
    have hv2 := zV_n (by decide) hv
    refine zs_iload_n (pc := 0) dC_putEntry_0 rfl ?_
    refine zs_iconst (pc := 1) dC_putEntry_1 zi_1 ?_
    refine zs_icmp_lt (pc := 2) 11 dC_putEntry_2 rfl (fun hb => ?_) (fun hb => ?_)
    · refine zs_bipush (pc := 11) (v := -2) dC_putEntry_11 (by decide) ?_
      exact zs_iret (pc := 13) dC_putEntry_13 rfl rfl (by omega) (by omega) (⟨rfl, rfl, zfr.rf, hR9⟩)
    · refine zs_iload_n (pc := 5) dC_putEntry_5 rfl ?_
      refine zs_bipush (pc := 6) dC_putEntry_6 (zi_b 9 (by decide)) ?_
      have h1 := zge0 (by decide) hb
      obtain ⟨c, hc, rfl⟩ := nI_of h1
      have h2 : ¬ c < 1 := fun q => hb ((nI_ltI hc (by decide)).mpr q)
      refine zn_icmp_le (pc := 8) 14 dC_putEntry_8 rfl (by omega) (by omega) (fun h9 => absurd h9 (fun q => hv2 ⟨c, by omega, q, rfl⟩)) (fun _ => ?_)
      refine zs_bipush (pc := 11) (v := -2) dC_putEntry_11 (by decide) ?_
      exact zs_iret (pc := 13) dC_putEntry_13 rfl rfl (by omega) (by omega) (⟨rfl, rfl, zfr.rf, hR9⟩)
  | true =>
    rw [if_pos rfl]
    obtain ⟨v1, v2, v3⟩ := zV_y hv
    generalize x.toInt.toNat = w at v1 v2 v3 ⊢
    subst v3
    refine zs_iload_n (pc := 0) dC_putEntry_0 rfl ?_
    refine zs_iconst (pc := 1) dC_putEntry_1 zi_1 ?_
    refine zn_icmp_lt (pc := 2) 11 dC_putEntry_2 rfl (by omega) (by omega) (fun h9 => absurd h9 (by omega)) (fun _ => ?_)
    refine zs_iload_n (pc := 5) dC_putEntry_5 rfl ?_
    refine zs_bipush (pc := 6) dC_putEntry_6 (zi_b 9 (by decide)) ?_
    refine zn_icmp_le (pc := 8) 14 dC_putEntry_8 rfl (by omega) (by omega) (fun _ => ?_) (fun h9 => absurd h9 (by omega))
    refine zs_aload_n (pc := 14) dC_putEntry_14 rfl ?_
    refine zs_get (pc := 15) dC_putEntry_15 fC_17 (by first | exact hC.1 | exact hC.2.1 | exact h0.1 | exact zu_s | (rw [zu_n (by omega)]; exact hC.1) | (rw [zEh_n (by omega) (by omega)]; exact hC.1)) (by rfl) ?_
    refine zs_bipush (pc := 18) dC_putEntry_18 (zi_b 20 (by decide)) ?_
    by_cases hful : g 0 = 20
    · rw [if_pos hful]
      refine zn_icmp_lt (pc := 20) 26 dC_putEntry_20 rfl (by omega) (by omega) (fun h9 => absurd h9 (by omega)) (fun _ => ?_)
      refine zs_bipush (pc := 23) (v := -3) dC_putEntry_23 (by decide) ?_
      exact zs_iret (pc := 25) dC_putEntry_25 rfl rfl (by omega) (by omega) (⟨rfl, rfl, zfr.rf, hR9⟩)
    · rw [if_neg hful]
      have hs := hp.1 (g 0) (by omega)
      have h0 := hC.2.2 (p (g 0)) hs
      refine zn_icmp_lt (pc := 20) 26 dC_putEntry_20 rfl (by omega) (by omega) (fun _ => ?_) (fun h9 => absurd h9 (by omega))
      refine zs_aload_n (pc := 26) dC_putEntry_26 rfl ?_
      refine zs_get (pc := 27) dC_putEntry_27 fC_21 (by first | exact hC.1 | exact hC.2.1 | exact h0.1 | exact zu_s | (rw [zu_n (by omega)]; exact hC.1) | (rw [zEh_n (by omega) (by omega)]; exact hC.1)) (by rfl) ?_
      refine zs_istore_n (pc := 30) (ls2 := [_, _, _]) dC_putEntry_30 (Nat.le_of_ble_eq_true rfl) rfl ?_
      refine zs_aload_n (pc := 31) dC_putEntry_31 rfl ?_
      refine zs_get (pc := 32) dC_putEntry_32 fC_11 (by first | exact hC.1 | exact hC.2.1 | exact h0.1 | exact zu_s | (rw [zu_n (by omega)]; exact hC.1) | (rw [zEh_n (by omega) (by omega)]; exact hC.1)) (by rfl) ?_
      refine zs_aload_n (pc := 35) dC_putEntry_35 rfl ?_
      refine zs_get (pc := 36) dC_putEntry_36 fC_17 (by first | exact hC.1 | exact hC.2.1 | exact h0.1 | exact zu_s | (rw [zu_n (by omega)]; exact hC.1) | (rw [zEh_n (by omega) (by omega)]; exact hC.1)) (by rfl) ?_
      refine zn_aald (pc := 39) (Or.inl rfl) dC_putEntry_39 (by first | exact hC.1 | exact hC.2.1 | exact h0.1 | exact zu_s | (rw [zu_n (by omega)]; exact hC.1) | (rw [zEh_n (by omega) (by omega)]; exact hC.1)) (by omega) (by decide) (by rfl) ?_
      refine zs_iload_n (pc := 40) dC_putEntry_40 rfl ?_
      refine zs_iload_n (pc := 41) dC_putEntry_41 rfl ?_
      refine zs_aload_n (pc := 42) dC_putEntry_42 rfl ?_
      refine zs_get (pc := 43) dC_putEntry_43 fC_24 (by first | exact hC.1 | exact hC.2.1 | exact h0.1 | exact zu_s | (rw [zu_n (by omega)]; exact hC.1) | (rw [zEh_n (by omega) (by omega)]; exact hC.1)) (by rfl) ?_
      refine zs_iconst (pc := 46) dC_putEntry_46 zi_1 ?_
      refine zn_isub (pc := 47) dC_putEntry_47 (by omega) ?_
      refine zcV0_3 (pc := 48) (d2 := d - 1) (s_E_begin hl h0.1 h0.2 (by omega)) dC_putEntry_48 kC_80 mdE_begin miE_begin mvE_begin rfl (by exact h0.1) rfl (Nat.le_of_ble_eq_true rfl) (by omega) (by omega) (by omega) ?_
      refine zs_aload_n (pc := 51) dC_putEntry_51 rfl ?_
      refine zs_dup (pc := 52) dC_putEntry_52 rfl ?_
      refine zs_get (pc := 53) dC_putEntry_53 fC_17 (by first | exact hC.1 | exact hC.2.1 | exact h0.1 | exact zu_s | (rw [zu_n (by omega)]; exact hC.1) | (rw [zEh_n (by omega) (by omega)]; exact hC.1)) (by rfl) ?_
      refine zs_iconst (pc := 56) dC_putEntry_56 zi_1 ?_
      refine zn_iadd (pc := 57) dC_putEntry_57 ?_
      refine zs_put (pc := 58) (fs2 := [_, _, _, _, _, _, _, _]) dC_putEntry_58 fC_17 (by first | exact hC.1 | exact hC.2.1 | exact h0.1 | exact zu_s | (rw [zu_n (by omega)]; exact hC.1) | (rw [zEh_n (by omega) (by omega)]; exact hC.1)) (by rfl) (by rfl) (by exact Nat.le_of_ble_eq_true rfl) (by rfl) ?_
      refine zs_aload_n (pc := 61) dC_putEntry_61 rfl ?_
      refine zs_dup (pc := 62) dC_putEntry_62 rfl ?_
      refine zs_get (pc := 63) dC_putEntry_63 fC_21 (by first | exact hC.1 | exact hC.2.1 | exact h0.1 | exact zu_s | (rw [zu_n (by omega)]; exact hC.1) | (rw [zEh_n (by omega) (by omega)]; exact hC.1)) (by rfl) ?_
      refine zs_iconst (pc := 66) dC_putEntry_66 zi_1 ?_
      refine zn_iadd (pc := 67) dC_putEntry_67 ?_
      refine zs_putU (pc := 68) (fs2 := [_, _, _, _, _, _, _, _]) dC_putEntry_68 fC_21 (by rfl) (by rfl) (by exact Nat.le_of_ble_eq_true rfl) (by rfl) ?_
      refine zs_aload_n (pc := 71) dC_putEntry_71 rfl ?_
      refine zs_dup (pc := 72) dC_putEntry_72 rfl ?_
      refine zs_get (pc := 73) dC_putEntry_73 fC_27 (by first | exact hC.1 | exact hC.2.1 | exact h0.1 | exact zu_s | (rw [zu_n (by omega)]; exact hC.1) | (rw [zEh_n (by omega) (by omega)]; exact hC.1)) (by rfl) ?_
      refine zs_iconst (pc := 76) dC_putEntry_76 zi_1 ?_
      refine zn_iadd (pc := 77) dC_putEntry_77 ?_
      refine zs_putU (pc := 78) (fs2 := [_, _, _, _, _, _, _, _]) dC_putEntry_78 fC_27 (by rfl) (by rfl) (by exact Nat.le_of_ble_eq_true rfl) (by rfl) ?_
      refine zs_iload_n (pc := 81) dC_putEntry_81 rfl ?_
      rw [e1, e2, e4]
      have hC2 : CH _ r p _ (fun j => if j = 1 then g 0 + 1 else if j = 2 then g 1 + 1 else if j = 4 then g 1 + 1 else zFg g j) := (hC.set hs (zbeg (Q (p (g 0))) (g 1) w (g 2 - 1))).setF _
      have hA2 : ∀ j, j < zadd g w 0 → zAg (zQu Q (p (g 0)) (zbeg (Q (p (g 0))) (g 1) w (g 2 - 1)) (p j)) (eg (zadd g w) j) := by
        intro j hj
        have hj2 : j < g 0 + 1 := hj
        by_cases e : j = g 0
        · subst e
          rw [zQu_s]
          intro i hi
          have i8 := hI.2.2.2.2.2.2.2.2 (g 0) (by omega) (by omega)
          rw [eg_add_s] at hi ⊢
          rw [if_neg (by decide), if_neg (by decide), if_neg (by decide), i8.2.2] at hi
          unfold zbeg
          by_cases a0 : i = 0
          · rw [if_pos a0, if_pos a0]
          · rw [if_neg a0, if_neg a0]
            by_cases a1 : i = 1
            · rw [if_pos a1, if_pos a1]
            · rw [if_neg a1, if_neg a1]
              by_cases a4 : i = 4
              · rw [if_pos a4, if_pos a4]
              · rw [if_neg a4, if_neg a4, if_pos (by omega)]
                have a9 : i = 2 ∨ i = 3 ∨ i = 5 := by omega
                rcases a9 with a9 | a9 | a9 <;> subst a9
                · exact i8.1.symm
                · exact i8.2.1.symm
                · exact i8.2.2.symm
        · rw [zQu_n (fun q9 => e (hp.2 _ _ (by omega) (by omega) q9))]
          exact (hA j (by omega)).eqv (hI.s6 _ (by omega)) (fun i hi => eg_add_o e hi)
      have hCR := CR.mk (g2 := zadd g w) hC2 hp (zadd_lo (g := g) (w := w) (j := 0) (by decide)).symm (zadd_lo (g := g) (w := w) (j := 1) (by decide)).symm (zadd_lo (g := g) (w := w) (j := 2) (by decide)).symm (zadd_lo (g := g) (w := w) (j := 1) (by decide)).symm (zadd_lo (g := g) (w := w) (j := 3) (by decide)).symm (zadd_lo (g := g) (w := w) (j := 4) (by decide)).symm (zadd_lo (g := g) (w := w) (j := 5) (by decide)).symm hA2
      exact zs_iret (pc := 82) dC_putEntry_82 rfl rfl (by omega) (by omega) (⟨rfl, rfl, (zfr.E hs).tr (zfr.u (by omega) (by omega)), hCR⟩)
theorem s_C_putCode {Γ : zG} {l : Launch} (hl : l.stackTraces = false) {d : Nat} (hd : 1 ≤ d) {h : zH} {n : Nat} {B r : Nat} {g : Nat → Nat} (hR : CR h r g) (hI : IG B g) (hB : B < 2 ^ 20) (x y : Int32) : zC Γ l d mC_putCode [.ref r, .int x, .int y] h n 0 0 (zCq r h n 1 (zopCode g x y)) := by
  have hR9 := hR
  obtain ⟨p, Q, hC, hp, hA⟩ := hR
  have i0 := hI.1
  refine zC_of (ls := [some (.ref r), some (.int x), some (.int y), none]) hl (by decide +kernel) rfl (Nat.le_of_ble_eq_true rfl) rfl ?_
  unfold zopCode
  cases hH : zHas g x with
  | false =>
    rw [if_neg (by decide)]
    refine zs_aload_n (pc := 0) dC_putCode_0 rfl ?_
    refine zs_iload_n (pc := 1) dC_putCode_1 rfl ?_
    refine zcV1_1 (pc := 2) (d2 := d - 1) (s_C_find_gn hl hC hp hA hI hH) dC_putCode_2 kC_84 mdC_find miC_find mvC_find rfl (by first | exact hC.1 | exact h0.1) rfl (Nat.le_of_ble_eq_true rfl) (by omega) (by omega) (by omega) ?_
    refine zs_astore_nN (pc := 5) (ls2 := [_, _, _, _]) dC_putCode_5 (Nat.le_of_ble_eq_true rfl) rfl ?_
    refine zs_aload_nN (pc := 6) dC_putCode_6 rfl ?_
    refine zs_ifnonnullN (pc := 7) dC_putCode_7 ?_
    refine zs_iconst (pc := 10) dC_putCode_10 zi_m1 ?_
    exact zs_iret (pc := 11) dC_putCode_11 rfl rfl (by omega) (by omega) (⟨rfl, rfl, zfr.rf, hR9⟩)
  | true =>
    rw [if_pos rfl]
    obtain ⟨f1, f2, f3⟩ := zHas_y hH
    generalize zAt g x = k at f1 f2 f3 ⊢
    have hs := hp.1 k (by omega)
    have h0 := hC.2.2 (p k) hs
    have hA1 := hA k f1
    have hb := hA1.b (hI.b hB f1)
    have hm6 := hI.s6 k f1
    cases hv : zV y 0 999 with
    | false =>
      rw [if_neg (by decide)]
      have hv2 := zV_n (by decide) hv
      refine zs_aload_n (pc := 0) dC_putCode_0 rfl ?_
      refine zs_iload_n (pc := 1) dC_putCode_1 rfl ?_
      refine zcV1_1 (pc := 2) (d2 := d - 1) (s_C_find_k hl hC hp hA hI f1 f2 f3) dC_putCode_2 kC_84 mdC_find miC_find mvC_find rfl (by first | exact hC.1 | exact h0.1) rfl (Nat.le_of_ble_eq_true rfl) (by omega) (by omega) (by omega) ?_
      refine zs_astore_n (pc := 5) (ls2 := [_, _, _, _]) dC_putCode_5 (Nat.le_of_ble_eq_true rfl) rfl ?_
      refine zs_aload_n (pc := 6) dC_putCode_6 rfl ?_
      refine zs_ifnonnull (pc := 7) 12 dC_putCode_7 rfl ?_
      refine zs_iload_n (pc := 12) dC_putCode_12 rfl ?_
      refine zcSN1_1 (pc := 13) (d2 := d - 1) (s_X_isCode_n hl (fun ⟨c, c1, c2⟩ => hv2 ⟨c, by omega, by omega, c2⟩)) dC_putCode_13 knC_88 mdX_isCode msX_isCode rfl (Nat.le_of_ble_eq_true rfl) (by omega) (by omega) (by omega) ?_
      refine zs_if_ne (pc := 16) 22 dC_putCode_16 rfl (fun h9 => absurd h9 (by decide)) (fun _ => ?_)
      refine zs_bipush (pc := 19) (v := -2) dC_putCode_19 (by decide) ?_
      exact zs_iret (pc := 21) dC_putCode_21 rfl rfl (by omega) (by omega) (⟨rfl, rfl, zfr.rf, hR9⟩)
    | true =>
      rw [if_pos rfl]
      obtain ⟨v1, v2, v3⟩ := zV_y hv
      generalize y.toInt.toNat = w at v1 v2 v3 ⊢
      subst v3
      refine zs_aload_n (pc := 0) dC_putCode_0 rfl ?_
      refine zs_iload_n (pc := 1) dC_putCode_1 rfl ?_
      refine zcV1_1 (pc := 2) (d2 := d - 1) (s_C_find_k hl hC hp hA hI f1 f2 f3) dC_putCode_2 kC_84 mdC_find miC_find mvC_find rfl (by first | exact hC.1 | exact h0.1) rfl (Nat.le_of_ble_eq_true rfl) (by omega) (by omega) (by omega) ?_
      refine zs_astore_n (pc := 5) (ls2 := [_, _, _, _]) dC_putCode_5 (Nat.le_of_ble_eq_true rfl) rfl ?_
      refine zs_aload_n (pc := 6) dC_putCode_6 rfl ?_
      refine zs_ifnonnull (pc := 7) 12 dC_putCode_7 rfl ?_
      refine zs_iload_n (pc := 12) dC_putCode_12 rfl ?_
      refine zcSN1_1 (pc := 13) (d2 := d - 1) (s_X_isCode_y hl (by omega)) dC_putCode_13 knC_88 mdX_isCode msX_isCode rfl (Nat.le_of_ble_eq_true rfl) (by omega) (by omega) (by omega) ?_
      refine zs_if_ne (pc := 16) 22 dC_putCode_16 rfl (fun _ => ?_) (fun h9 => absurd h9 (by decide))
      refine zs_aload_n (pc := 22) dC_putCode_22 rfl ?_
      refine zs_iload_n (pc := 23) dC_putCode_23 rfl ?_
      cases hz : zin (eg g k) w with
      | true =>
        rw [if_pos (Or.inl rfl)]
        refine zcV1_1 (pc := 24) (d2 := d - 1) (s_E_holds hl hb h0.1 h0.2 (by omega)) dC_putCode_24 kC_92 mdE_holds miE_holds mvE_holds rfl (by first | exact hC.1 | exact h0.1) rfl (Nat.le_of_ble_eq_true rfl) (by omega) (by omega) (by omega) ?_
        refine zs_if_ne (pc := 27) 39 dC_putCode_27 rfl (fun _ => ?_) (fun h9 => absurd h9 (by rw [hA1.inn, hz]; decide))
        refine zs_bipush (pc := 39) (v := -3) dC_putCode_39 (by decide) ?_
        exact zs_iret (pc := 41) dC_putCode_41 rfl rfl (by omega) (by omega) (⟨rfl, rfl, zfr.rf, hR9⟩)
      | false =>
        have h5 := hA1.e5
        refine zcV1_1 (pc := 24) (d2 := d - 1) (s_E_holds hl hb h0.1 h0.2 (by omega)) dC_putCode_24 kC_92 mdE_holds miE_holds mvE_holds rfl (by first | exact hC.1 | exact h0.1) rfl (Nat.le_of_ble_eq_true rfl) (by omega) (by omega) (by omega) ?_
        refine zs_if_ne (pc := 27) 39 dC_putCode_27 rfl (fun h9 => absurd h9 (by rw [hA1.inn, hz]; decide)) (fun _ => ?_)
        refine zs_aload_n (pc := 30) dC_putCode_30 rfl ?_
        refine zs_get (pc := 31) dC_putCode_31 fC_95 (by first | exact h0.1 | exact zEh_e (by omega)) (by rfl) ?_
        refine zs_bipush (pc := 34) dC_putCode_34 (zi_b 6 (by decide)) ?_
        by_cases he : eg g k 5 = 6
        · rw [if_pos (Or.inr he)]
          refine zn_icmp_lt (pc := 36) 42 dC_putCode_36 rfl (by omega) (by omega) (fun h9 => absurd h9 (by omega)) (fun _ => ?_)
          refine zs_bipush (pc := 39) (v := -3) dC_putCode_39 (by decide) ?_
          exact zs_iret (pc := 41) dC_putCode_41 rfl rfl (by omega) (by omega) (⟨rfl, rfl, zfr.rf, hR9⟩)
        · rw [if_neg (by rintro (q9 | q9); cases q9; exact he q9)]
          refine zn_icmp_lt (pc := 36) 42 dC_putCode_36 rfl (by omega) (by omega) (fun _ => ?_) (fun h9 => absurd h9 (by omega))
          refine zs_aload_n (pc := 42) dC_putCode_42 rfl ?_
          refine zs_iload_n (pc := 43) dC_putCode_43 rfl ?_
          refine zcV0_1 (pc := 44) (d2 := d - 1) (s_E_insert hl hb (by omega) h0.1 h0.2 (by omega) (by omega)) dC_putCode_44 kC_98 mdE_insert miE_insert mvE_insert rfl (by first | exact hC.1 | exact h0.1) rfl (Nat.le_of_ble_eq_true rfl) (by omega) (by omega) (by omega) ?_
          refine zs_aload_n (pc := 47) dC_putCode_47 rfl ?_
          refine zs_get (pc := 48) dC_putCode_48 fC_95 (by first | exact h0.1 | exact zEh_e (by omega)) (by rfl) ?_
          exact zs_iret (pc := 51) dC_putCode_51 rfl rfl (by omega) (by omega) (⟨by show _ = Sum.inl (some (Value.int (nI (eg g k 5 + 1)))); rw [← h5]; rfl, rfl, zfr.E hs, CR.put hC hp hA hI.s6 f1 i0 (hA1.ins w) (by rw [zins_5]; omega)⟩)

