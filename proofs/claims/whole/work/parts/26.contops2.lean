/-! the contents' commands, further -/
theorem zAg.del {q q2 : Nat → Nat} (h : zAg q q2) {t : Nat} (h6 : q2 5 ≤ 6) : zAg (zdel q t) (zdelm q2 t) := by
  intro i hi
  have e9 : zdelm q2 t 5 = q2 5 - 1 := rfl
  rw [e9] at hi
  unfold zdel zdelm
  rw [h.e5]
  by_cases h1 : i = 5
  · rw [if_pos h1, if_pos h1]
  · rw [if_neg h1, if_neg h1]
    by_cases h2 : i < 6 + t
    · rw [if_pos h2, if_pos h2]; exact h i (by omega)
    · rw [if_neg h2, if_neg h2, if_pos (by omega), if_pos (by omega)]; exact h (i + 1) (by omega)
theorem zidx_y {q : Nat → Nat} {c : Nat} (h : zin q c = true) : zidx q c < q 5 ∧ q (6 + zidx q c) = c := by
  obtain ⟨h1, h2, h3⟩ := zfst_y _ h
  have h4 : (q (6 + zidx q c) == c) = true := h2
  exact ⟨h1, by simpa using h4⟩
theorem zOk.ne {g : Nat → Nat} {k : Nat} (h : zOk g k) {i j : Nat} (hi : i < eg g k 5) (hj : j < eg g k 5) (hij : i ≠ j) : eg g k (6 + i) ≠ eg g k (6 + j) := by
  have h9 := zmono (f := fun i => eg g k (6 + i)) h.2.2.2.2.2.2.2
  rcases Nat.lt_or_gt_of_ne hij with h1 | h1
  · have h8 : eg g k (6 + i) < eg g k (6 + j) := h9 i j h1 hj; omega
  · have h8 : eg g k (6 + j) < eg g k (6 + i) := h9 j i h1 hi; omega
theorem s_C_takeCode {Γ : zG} {l : Launch} (hl : l.stackTraces = false) {d : Nat} (hd : 1 ≤ d) {h : zH} {n : Nat} {B r : Nat} {g : Nat → Nat} (hR : CR h r g) (hI : IG B g) (hB : B < 2 ^ 20) (x y : Int32) : zC Γ l d mC_takeCode [.ref r, .int x, .int y] h n 0 0 (zCq r h n 2 (zopUncode g x y)) := by
  have hR9 := hR
  obtain ⟨p, Q, hC, hp, hA⟩ := hR
  have i0 := hI.1
  refine zC_of (ls := [some (.ref r), some (.int x), some (.int y), none]) hl (by decide +kernel) rfl (Nat.le_of_ble_eq_true rfl) rfl ?_
  unfold zopUncode
  cases hH : zHas g x with
  | false =>
    rw [if_neg (by decide)]
    refine zs_aload_n (pc := 0) dC_takeCode_0 rfl ?_
    refine zs_iload_n (pc := 1) dC_takeCode_1 rfl ?_
    refine zcV1_1 (pc := 2) (d2 := d - 1) (s_C_find_gn hl hC hp hA hI hH) dC_takeCode_2 kC_84 mdC_find miC_find mvC_find rfl (by first | exact hC.1 | exact h0.1) rfl (Nat.le_of_ble_eq_true rfl) (by omega) (by omega) (by omega) ?_
    refine zs_astore_nN (pc := 5) (ls2 := [_, _, _, _]) dC_takeCode_5 (Nat.le_of_ble_eq_true rfl) rfl ?_
    refine zs_aload_nN (pc := 6) dC_takeCode_6 rfl ?_
    refine zs_ifnonnullN (pc := 7) dC_takeCode_7 ?_
    refine zs_iconst (pc := 10) dC_takeCode_10 zi_m1 ?_
    exact zs_iret (pc := 11) dC_takeCode_11 rfl rfl (by omega) (by omega) (⟨rfl, rfl, zfr.rf, hR9⟩)
  | true =>
    rw [if_pos rfl]
    obtain ⟨f1, f2, f3⟩ := zHas_y hH
    generalize zAt g x = k at f1 f2 f3 ⊢
    have hs := hp.1 k (by omega)
    have h0 := hC.2.2 (p k) hs
    have hA1 := hA k f1
    have hb := hA1.b (hI.b hB f1)
    have hm6 := hI.s6 k f1
    cases hv : zV y 0 999 with
    | false =>
      rw [if_neg (by decide)]
      have hv2 := zV_n (by decide) hv
      refine zs_aload_n (pc := 0) dC_takeCode_0 rfl ?_
      refine zs_iload_n (pc := 1) dC_takeCode_1 rfl ?_
      refine zcV1_1 (pc := 2) (d2 := d - 1) (s_C_find_k hl hC hp hA hI f1 f2 f3) dC_takeCode_2 kC_84 mdC_find miC_find mvC_find rfl (by first | exact hC.1 | exact h0.1) rfl (Nat.le_of_ble_eq_true rfl) (by omega) (by omega) (by omega) ?_
      refine zs_astore_n (pc := 5) (ls2 := [_, _, _, _]) dC_takeCode_5 (Nat.le_of_ble_eq_true rfl) rfl ?_
      refine zs_aload_n (pc := 6) dC_takeCode_6 rfl ?_
      refine zs_ifnonnull (pc := 7) 12 dC_takeCode_7 rfl ?_
      refine zs_iload_n (pc := 12) dC_takeCode_12 rfl ?_
      refine zcSN1_1 (pc := 13) (d2 := d - 1) (s_X_isCode_n hl (fun ⟨c, c1, c2⟩ => hv2 ⟨c, by omega, by omega, c2⟩)) dC_takeCode_13 knC_88 mdX_isCode msX_isCode rfl (Nat.le_of_ble_eq_true rfl) (by omega) (by omega) (by omega) ?_
      refine zs_if_ne (pc := 16) 22 dC_takeCode_16 rfl (fun h9 => absurd h9 (by decide)) (fun _ => ?_)
      refine zs_bipush (pc := 19) (v := -2) dC_takeCode_19 (by decide) ?_
      exact zs_iret (pc := 21) dC_takeCode_21 rfl rfl (by omega) (by omega) (⟨rfl, rfl, zfr.rf, hR9⟩)
    | true =>
      rw [if_pos rfl]
      obtain ⟨v1, v2, v3⟩ := zV_y hv
      generalize y.toInt.toNat = w at v1 v2 v3 ⊢
      subst v3
      refine zs_aload_n (pc := 0) dC_takeCode_0 rfl ?_
      refine zs_iload_n (pc := 1) dC_takeCode_1 rfl ?_
      refine zcV1_1 (pc := 2) (d2 := d - 1) (s_C_find_k hl hC hp hA hI f1 f2 f3) dC_takeCode_2 kC_84 mdC_find miC_find mvC_find rfl (by first | exact hC.1 | exact h0.1) rfl (Nat.le_of_ble_eq_true rfl) (by omega) (by omega) (by omega) ?_
      refine zs_astore_n (pc := 5) (ls2 := [_, _, _, _]) dC_takeCode_5 (Nat.le_of_ble_eq_true rfl) rfl ?_
      refine zs_aload_n (pc := 6) dC_takeCode_6 rfl ?_
      refine zs_ifnonnull (pc := 7) 12 dC_takeCode_7 rfl ?_
      refine zs_iload_n (pc := 12) dC_takeCode_12 rfl ?_
      refine zcSN1_1 (pc := 13) (d2 := d - 1) (s_X_isCode_y hl (by omega)) dC_takeCode_13 knC_88 mdX_isCode msX_isCode rfl (Nat.le_of_ble_eq_true rfl) (by omega) (by omega) (by omega) ?_
      refine zs_if_ne (pc := 16) 22 dC_takeCode_16 rfl (fun _ => ?_) (fun h9 => absurd h9 (by decide))
      refine zs_aload_n (pc := 22) dC_takeCode_22 rfl ?_
      refine zs_iload_n (pc := 23) dC_takeCode_23 rfl ?_
      cases hz : zin (eg g k) w with
      | false =>
        rw [if_neg (by decide)]
        refine zcV1_1 (pc := 24) (d2 := d - 1) (s_E_holds hl hb h0.1 h0.2 (by omega)) dC_takeCode_24 kC_92 mdE_holds miE_holds mvE_holds rfl (by first | exact hC.1 | exact h0.1) rfl (Nat.le_of_ble_eq_true rfl) (by omega) (by omega) (by omega) ?_
        refine zs_if_ne (pc := 27) 33 dC_takeCode_27 rfl (fun h9 => absurd h9 (by rw [hA1.inn, hz]; decide)) (fun _ => ?_)
        refine zs_bipush (pc := 30) (v := -3) dC_takeCode_30 (by decide) ?_
        exact zs_iret (pc := 32) dC_takeCode_32 rfl rfl (by omega) (by omega) (⟨rfl, rfl, zfr.rf, hR9⟩)
      | true =>
        rw [if_pos rfl]
        have h5 := hA1.e5
        obtain ⟨t1, t2⟩ := zidx_y hz
        generalize zidx (eg g k) w = t at t1 t2 ⊢
        have hu := (hI.2.2.2.2.2.1 k f1)
        have q1 : Q (p k) (6 + t) = w := by rw [hA1 (6 + t) (by omega)]; exact t2
        have q2 : ∀ i, i < Q (p k) 5 → i ≠ t → Q (p k) (6 + i) ≠ w := fun i hi hit => by rw [hA1 (6 + i) (by omega), ← t2]; exact hu.ne (by omega) t1 hit
        refine zcV1_1 (pc := 24) (d2 := d - 1) (s_E_holds hl hb h0.1 h0.2 (by omega)) dC_takeCode_24 kC_92 mdE_holds miE_holds mvE_holds rfl (by first | exact hC.1 | exact h0.1) rfl (Nat.le_of_ble_eq_true rfl) (by omega) (by omega) (by omega) ?_
        refine zs_if_ne (pc := 27) 33 dC_takeCode_27 rfl (fun _ => ?_) (fun h9 => absurd h9 (by rw [hA1.inn, hz]; decide))
        refine zs_aload_n (pc := 33) dC_takeCode_33 rfl ?_
        refine zs_iload_n (pc := 34) dC_takeCode_34 rfl ?_
        refine zcV0_1 (pc := 35) (d2 := d - 1) (s_E_delete hl hb h0.1 h0.2 (by omega) (by omega) (by omega) q1 q2) dC_takeCode_35 kC_102 mdE_delete miE_delete mvE_delete rfl (by first | exact hC.1 | exact h0.1) rfl (Nat.le_of_ble_eq_true rfl) (by omega) (by omega) (by omega) ?_
        refine zs_aload_n (pc := 38) dC_takeCode_38 rfl ?_
        refine zs_get (pc := 39) dC_takeCode_39 fC_95 (by first | exact h0.1 | exact zEh_e (by omega)) (by rfl) ?_
        exact zs_iret (pc := 42) dC_takeCode_42 rfl rfl (by omega) (by omega) (⟨by show _ = Sum.inl (some (Value.int (nI (eg g k 5 - 1)))); rw [← h5]; rfl, rfl, zfr.E hs, CR.put hC hp hA hI.s6 f1 i0 (hA1.del hm6) (Nat.le_trans (Nat.sub_le _ _) hm6)⟩)
theorem zfr.disc {r : Nat} {h : zH} {e1 e2 : zE} : zfr r 42 h (zu (zu h (r + 1) e1) r e2) := (zfr.u (by omega) (by omega)).tr (zfr.u (by omega) (by omega))
theorem s_C_takeEntry {Γ : zG} {l : Launch} (hl : l.stackTraces = false) {d : Nat} (hd : 1 ≤ d) {h : zH} {n : Nat} {B r : Nat} {g : Nat → Nat} (hR : CR h r g) (hI : IG B g) (hB : B < 2 ^ 20) (x : Int32) : zC Γ l d mC_takeEntry [.ref r, .int x] h n 0 0 (zCq r h n 3 (zopDrop g x)) := by
  have hR9 := hR
  obtain ⟨p, Q, hC, hp, hA⟩ := hR
  have i0 := hI.1
  refine zC_of (ls := [some (.ref r), some (.int x), none]) hl (by decide +kernel) rfl (Nat.le_of_ble_eq_true rfl) rfl ?_
  unfold zopDrop
  cases hH : zHas g x with
  | false =>
    rw [if_neg (by decide)]
    refine zs_aload_n (pc := 0) dC_takeEntry_0 rfl ?_
    refine zs_iload_n (pc := 1) dC_takeEntry_1 rfl ?_
    refine zcV1_1 (pc := 2) (d2 := d - 1) (s_C_find_gn hl hC hp hA hI hH) dC_takeEntry_2 kC_84 mdC_find miC_find mvC_find rfl (by first | exact hC.1) rfl (Nat.le_of_ble_eq_true rfl) (by omega) (by omega) (by omega) ?_
    refine zs_astore_nN (pc := 5) (ls2 := [_, _, _]) dC_takeEntry_5 (Nat.le_of_ble_eq_true rfl) rfl ?_
    refine zs_aload_nN (pc := 6) dC_takeEntry_6 rfl ?_
    refine zs_ifnonnullN (pc := 7) dC_takeEntry_7 ?_
    refine zs_iconst (pc := 10) dC_takeEntry_10 zi_m1 ?_
    exact zs_iret (pc := 11) dC_takeEntry_11 rfl rfl (by omega) (by omega) (⟨rfl, rfl, zfr.rf, hR9⟩)
  | true =>
    rw [if_pos rfl]
    obtain ⟨f1, f2, f3⟩ := zHas_y hH
    generalize zAt g x = k at f1 f2 f3 ⊢
    have hs := hp.1 k (by omega)
    have b1 := hI.2.1
    have b2 := hI.2.2.2.2.1
    have hid : ∀ i, i < zFg g 1 → Q (p i) 0 < 2 ^ 31 := fun i hi => by
      have := (hI.b hB (j := i) hi).1
      rw [hA i hi 0 (by omega)]
      omega
    have hne : ∀ i, i < zFg g 1 → i ≠ k → Q (p i) 0 ≠ Q (p k) 0 := fun i hi hik => by
      rw [hA i hi 0 (by omega), hA k f1 0 (by omega)]
      exact hI.ne hi f1 hik
    refine zs_aload_n (pc := 0) dC_takeEntry_0 rfl ?_
    refine zs_iload_n (pc := 1) dC_takeEntry_1 rfl ?_
    refine zcV1_1 (pc := 2) (d2 := d - 1) (s_C_find_k hl hC hp hA hI f1 f2 f3) dC_takeEntry_2 kC_84 mdC_find miC_find mvC_find rfl (by first | exact hC.1) rfl (Nat.le_of_ble_eq_true rfl) (by omega) (by omega) (by omega) ?_
    refine zs_astore_n (pc := 5) (ls2 := [_, _, _]) dC_takeEntry_5 (Nat.le_of_ble_eq_true rfl) rfl ?_
    refine zs_aload_n (pc := 6) dC_takeEntry_6 rfl ?_
    refine zs_ifnonnull (pc := 7) 12 dC_takeEntry_7 rfl ?_
    refine zs_aload_n (pc := 12) dC_takeEntry_12 rfl ?_
    refine zs_aload_n (pc := 13) dC_takeEntry_13 rfl ?_
    refine zcV0_1 (pc := 14) (d2 := d - 1) (s_C_discard hl hC hp i0 f1 hid hne) dC_takeEntry_14 kC_105 mdC_discard miC_discard mvC_discard rfl (by first | exact hC.1) rfl (Nat.le_of_ble_eq_true rfl) (by omega) (by omega) (by omega) ?_
    refine zs_aload_n (pc := 17) dC_takeEntry_17 rfl ?_
    refine zs_dup (pc := 18) dC_takeEntry_18 rfl ?_
    refine zs_get (pc := 19) dC_takeEntry_19 fC_30 (by first | exact zu_s) (by rfl) ?_
    refine zs_iconst (pc := 22) dC_takeEntry_22 zi_1 ?_
    refine zn_iadd (pc := 23) dC_takeEntry_23 ?_
    refine zs_putU (pc := 24) (fs2 := [_, _, _, _, _, _, _, _]) dC_takeEntry_24 fC_30 (by rfl) (by rfl) (by exact Nat.le_of_ble_eq_true rfl) (by rfl) ?_
    refine zs_aload_n (pc := 27) dC_takeEntry_27 rfl ?_
    refine zs_get (pc := 28) dC_takeEntry_28 fC_17 (by first | exact zu_s) (by rfl) ?_
    have hC2 : CH _ r (zrot p k (g 0)) Q (fun j => if j = 5 then g 3 + 1 else zF1 (zFg g) 1 (g 0 - 1) j) := (hC.setP (zrot p k (g 0))).setF _
    have hA2 : ∀ j, j < g 0 - 1 → zAg (Q (zrot p k (g 0) j)) (eg (zup (zlv g k) 3 (g 3 + 1)) j) := fun j hj => by rw [eg_up (by decide)]; exact CR.lv hA hI.s6 f1 i0 j hj
    have hCR := CR.mk (g2 := zup (zlv g k) 3 (g 3 + 1)) hC2 (hp.rot f1 i0) rfl (zlv_lo (g := g) (k := k) (j := 1) (by decide)).symm (zlv_lo (g := g) (k := k) (j := 2) (by decide)).symm (zlv_lo (g := g) (k := k) (j := 1) (by decide)).symm rfl (zlv_lo (g := g) (k := k) (j := 4) (by decide)).symm (zlv_lo (g := g) (k := k) (j := 5) (by decide)).symm hA2
    exact zs_iret (pc := 31) dC_takeEntry_31 rfl rfl (by omega) (by omega) (⟨rfl, rfl, zfr.disc, hCR⟩)
theorem zEc_c {q q2 : Nat → Nat} (e : ∀ i, q2 (6 + i) = q (6 + i)) : zEc q2 = zEc q := by
  unfold zEc
  exact zAr_ext e
theorem CH.setE {h : zH} {r s : Nat} {p : Nat → Nat} {Q : Nat → Nat → Nat} {F : Nat → Nat} (hC : CH h r p Q F) (hs : s < 20) {q : Nat → Nat} (hq : ∀ i, q (6 + i) = Q s (6 + i)) : CH (zu h (r + 2 + 2 * s) (zEo q (r + 3 + 2 * s))) r p (zQu Q s q) F := by
  have e : zu h (r + 2 + 2 * s) (zEo q (r + 3 + 2 * s)) = zEh h (r + 2 + 2 * s) (r + 3 + 2 * s) q := by
    unfold zEh
    rw [zu_id (h := zu h (r + 2 + 2 * s) (zEo q (r + 3 + 2 * s)))]
    rw [zu_n (by omega), (hC.2.2 s hs).2, zEc_c hq]
  rw [e]
  exact hC.set hs q

