/-! the contents' commands -/
theorem nI_ne {a b : Nat} (ha : a < 2 ^ 31) (hb : b < 2 ^ 31) (h : a ≠ b) : nI a ≠ nI b := fun e => h ((nI_eq ha hb).mp e)
theorem s_C_find_g {Γ : zG} {l : Launch} (hl : l.stackTraces = false) {d : Nat} {h : zH} {n : Nat} {B r : Nat} {g : Nat → Nat} {p : Nat → Nat} {Q : Nat → Nat → Nat} (hC : CH h r p Q (zFg g)) (hp : PM p) (hA : ∀ j, j < g 0 → zAg (Q (p j)) (eg g j)) (hI : IG B g) (x : Int32) (hx : zHas g x = true) : zC Γ l d mC_find [.ref r, .int x] h n 0 0 (zR (some (.ref (r + 2 + 2 * p (zAt g x)))) h n) := by
  obtain ⟨h1, h2, h3⟩ := zHas_y hx
  exact s_C_find_y hl hC hp hI.1 h1 (by rw [hA _ h1 0 (by omega)]; exact h2) (fun i hi => by rw [hA i (by omega) 0 (by omega)]; exact h3 i hi)
theorem s_C_find_gn {Γ : zG} {l : Launch} (hl : l.stackTraces = false) {d : Nat} {h : zH} {n : Nat} {B r : Nat} {g : Nat → Nat} {p : Nat → Nat} {Q : Nat → Nat → Nat} (hC : CH h r p Q (zFg g)) (hp : PM p) (hA : ∀ j, j < g 0 → zAg (Q (p j)) (eg g j)) (hI : IG B g) (x : Int32) (hx : zHas g x = false) : zC Γ l d mC_find [.ref r, .int x] h n 0 0 (zR (some .null) h n) := by
  have h3 := zHas_n hx
  exact s_C_find_n hl hC hp hI.1 (fun i hi => by rw [hA i hi 0 (by omega)]; exact h3 i hi)
theorem s_C_putEntry {Γ : zG} {l : Launch} (hl : l.stackTraces = false) {d : Nat} (hd : 1 ≤ d) {h : zH} {n : Nat} {B r : Nat} {g : Nat → Nat} (hR : CR h r g) (hI : IG B g) (hB : B < 2 ^ 20) (x : Int32) : zC Γ l d mC_putEntry [.ref r, .int x] h n 0 0 (zCq r h n 0 (zopAdd g x)) := by
  have hR9 := hR
  obtain ⟨p, Q, hC, hp, hA⟩ := hR
  have i0 := hI.1
  have i1 := hI.2.1
  have i2 := hI.2.2.1
  have i3 := hI.2.2.2.1
  have e1 : zFg g 1 = g 0 := rfl
  have e2 : zFg g 2 = g 1 := rfl
  have e3 : zFg g 3 = g 2 := rfl
  have e4 : zFg g 4 = g 1 := rfl
  refine zC_of (ls := [some (.ref r), some (.int x), none]) hl (by decide +kernel) rfl (Nat.le_of_ble_eq_true rfl) rfl ?_
  unfold zopAdd
  cases hv : zV x 1 9 with
  | false =>
    rw [if_neg (by decide)]
    have hv2 := zV_n (by decide) hv
    refine zs_iload_n (pc := 0) dC_putEntry_0 rfl ?_
    refine zs_iconst (pc := 1) dC_putEntry_1 zi_1 ?_
    refine zs_icmp_lt (pc := 2) 11 dC_putEntry_2 rfl (fun hb => ?_) (fun hb => ?_)
    · refine zs_bipush (pc := 11) (v := -2) dC_putEntry_11 (by decide) ?_
      exact zs_iret (pc := 13) dC_putEntry_13 rfl rfl (by omega) (by omega) (⟨rfl, rfl, zfr.rf, hR9⟩)
    · refine zs_iload_n (pc := 5) dC_putEntry_5 rfl ?_
      refine zs_bipush (pc := 6) dC_putEntry_6 (zi_b 9 (by decide)) ?_
      have h1 : ¬ x < 0 := fun q => hb (by have h9 := Int32.lt_iff_toInt_lt.mp q; exact Int32.lt_iff_toInt_lt.mpr (by have : (nI 1).toInt = 1 := by decide
                                                                                                                   have : (0 : Int32).toInt = 0 := by decide
                                                                                                                   omega))
      obtain ⟨c, hc, rfl⟩ := nI_of h1
      have h2 : ¬ c < 1 := fun q => hb ((nI_ltI hc (by decide)).mpr q)
      refine zn_icmp_le (pc := 8) 14 dC_putEntry_8 rfl (by omega) (by omega) (fun h9 => absurd h9 (fun q => hv2 ⟨c, by omega, q, rfl⟩)) (fun _ => ?_)
      refine zs_bipush (pc := 11) (v := -2) dC_putEntry_11 (by decide) ?_
      exact zs_iret (pc := 13) dC_putEntry_13 rfl rfl (by omega) (by omega) (⟨rfl, rfl, zfr.rf, hR9⟩)
  | true =>
    rw [if_pos rfl]
    obtain ⟨v1, v2, v3⟩ := zV_y hv
    generalize x.toInt.toNat = w at v1 v2 v3 ⊢
    subst v3
    refine zs_iload_n (pc := 0) dC_putEntry_0 rfl ?_
    refine zs_iconst (pc := 1) dC_putEntry_1 zi_1 ?_
    refine zn_icmp_lt (pc := 2) 11 dC_putEntry_2 rfl (by omega) (by omega) (fun h9 => absurd h9 (by omega)) (fun _ => ?_)
    refine zs_iload_n (pc := 5) dC_putEntry_5 rfl ?_
    refine zs_bipush (pc := 6) dC_putEntry_6 (zi_b 9 (by decide)) ?_
    refine zn_icmp_le (pc := 8) 14 dC_putEntry_8 rfl (by omega) (by omega) (fun _ => ?_) (fun h9 => absurd h9 (by omega))
    refine zs_aload_n (pc := 14) dC_putEntry_14 rfl ?_
    refine zs_get (pc := 15) dC_putEntry_15 fC_17 (by first | exact hC.1 | exact hC.2.1 | exact h0.1 | exact zu_s | (rw [zu_n (by omega)]; exact hC.1) | (rw [zEh_n (by omega) (by omega)]; exact hC.1)) (by rfl) ?_
    refine zs_bipush (pc := 18) dC_putEntry_18 (zi_b 20 (by decide)) ?_
    by_cases hful : g 0 = 20
    · rw [if_pos hful]
      refine zn_icmp_lt (pc := 20) 26 dC_putEntry_20 rfl (by omega) (by omega) (fun h9 => absurd h9 (by omega)) (fun _ => ?_)
      refine zs_bipush (pc := 23) (v := -3) dC_putEntry_23 (by decide) ?_
      exact zs_iret (pc := 25) dC_putEntry_25 rfl rfl (by omega) (by omega) (⟨rfl, rfl, zfr.rf, hR9⟩)
    · rw [if_neg hful]
      have hs := hp.1 (g 0) (by omega)
      have h0 := hC.2.2 (p (g 0)) hs
      refine zn_icmp_lt (pc := 20) 26 dC_putEntry_20 rfl (by omega) (by omega) (fun _ => ?_) (fun h9 => absurd h9 (by omega))
      refine zs_aload_n (pc := 26) dC_putEntry_26 rfl ?_
      refine zs_get (pc := 27) dC_putEntry_27 fC_21 (by first | exact hC.1 | exact hC.2.1 | exact h0.1 | exact zu_s | (rw [zu_n (by omega)]; exact hC.1) | (rw [zEh_n (by omega) (by omega)]; exact hC.1)) (by rfl) ?_
      refine zs_istore_n (pc := 30) (ls2 := [_, _, _]) dC_putEntry_30 (Nat.le_of_ble_eq_true rfl) rfl ?_
      refine zs_aload_n (pc := 31) dC_putEntry_31 rfl ?_
      refine zs_get (pc := 32) dC_putEntry_32 fC_11 (by first | exact hC.1 | exact hC.2.1 | exact h0.1 | exact zu_s | (rw [zu_n (by omega)]; exact hC.1) | (rw [zEh_n (by omega) (by omega)]; exact hC.1)) (by rfl) ?_
      refine zs_aload_n (pc := 35) dC_putEntry_35 rfl ?_
      refine zs_get (pc := 36) dC_putEntry_36 fC_17 (by first | exact hC.1 | exact hC.2.1 | exact h0.1 | exact zu_s | (rw [zu_n (by omega)]; exact hC.1) | (rw [zEh_n (by omega) (by omega)]; exact hC.1)) (by rfl) ?_
      refine zn_aald (pc := 39) (Or.inl rfl) dC_putEntry_39 (by first | exact hC.1 | exact hC.2.1 | exact h0.1 | exact zu_s | (rw [zu_n (by omega)]; exact hC.1) | (rw [zEh_n (by omega) (by omega)]; exact hC.1)) (by omega) (by decide) (by rfl) ?_
      refine zs_iload_n (pc := 40) dC_putEntry_40 rfl ?_
      refine zs_iload_n (pc := 41) dC_putEntry_41 rfl ?_
      refine zs_aload_n (pc := 42) dC_putEntry_42 rfl ?_
      refine zs_get (pc := 43) dC_putEntry_43 fC_24 (by first | exact hC.1 | exact hC.2.1 | exact h0.1 | exact zu_s | (rw [zu_n (by omega)]; exact hC.1) | (rw [zEh_n (by omega) (by omega)]; exact hC.1)) (by rfl) ?_
      refine zs_iconst (pc := 46) dC_putEntry_46 zi_1 ?_
      refine zn_isub (pc := 47) dC_putEntry_47 (by omega) ?_
      refine zcV0_3 (pc := 48) (d2 := d - 1) (s_E_begin hl h0.1 h0.2 (by omega)) dC_putEntry_48 kC_80 mdE_begin miE_begin mvE_begin rfl (by exact h0.1) rfl (Nat.le_of_ble_eq_true rfl) (by omega) (by omega) (by omega) ?_
      refine zs_aload_n (pc := 51) dC_putEntry_51 rfl ?_
      refine zs_dup (pc := 52) dC_putEntry_52 rfl ?_
      refine zs_get (pc := 53) dC_putEntry_53 fC_17 (by first | exact hC.1 | exact hC.2.1 | exact h0.1 | exact zu_s | (rw [zu_n (by omega)]; exact hC.1) | (rw [zEh_n (by omega) (by omega)]; exact hC.1)) (by rfl) ?_
      refine zs_iconst (pc := 56) dC_putEntry_56 zi_1 ?_
      refine zn_iadd (pc := 57) dC_putEntry_57 ?_
      refine zs_put (pc := 58) (fs2 := [_, _, _, _, _, _, _, _]) dC_putEntry_58 fC_17 (by first | exact hC.1 | exact hC.2.1 | exact h0.1 | exact zu_s | (rw [zu_n (by omega)]; exact hC.1) | (rw [zEh_n (by omega) (by omega)]; exact hC.1)) (by rfl) (by rfl) (by exact Nat.le_of_ble_eq_true rfl) (by rfl) ?_
      refine zs_aload_n (pc := 61) dC_putEntry_61 rfl ?_
      refine zs_dup (pc := 62) dC_putEntry_62 rfl ?_
      refine zs_get (pc := 63) dC_putEntry_63 fC_21 (by first | exact hC.1 | exact hC.2.1 | exact h0.1 | exact zu_s | (rw [zu_n (by omega)]; exact hC.1) | (rw [zEh_n (by omega) (by omega)]; exact hC.1)) (by rfl) ?_
      refine zs_iconst (pc := 66) dC_putEntry_66 zi_1 ?_
      refine zn_iadd (pc := 67) dC_putEntry_67 ?_
      refine zs_putU (pc := 68) (fs2 := [_, _, _, _, _, _, _, _]) dC_putEntry_68 fC_21 (by rfl) (by rfl) (by exact Nat.le_of_ble_eq_true rfl) (by rfl) ?_
      refine zs_aload_n (pc := 71) dC_putEntry_71 rfl ?_
      refine zs_dup (pc := 72) dC_putEntry_72 rfl ?_
      refine zs_get (pc := 73) dC_putEntry_73 fC_27 (by first | exact hC.1 | exact hC.2.1 | exact h0.1 | exact zu_s | (rw [zu_n (by omega)]; exact hC.1) | (rw [zEh_n (by omega) (by omega)]; exact hC.1)) (by rfl) ?_
      refine zs_iconst (pc := 76) dC_putEntry_76 zi_1 ?_
      refine zn_iadd (pc := 77) dC_putEntry_77 ?_
      refine zs_putU (pc := 78) (fs2 := [_, _, _, _, _, _, _, _]) dC_putEntry_78 fC_27 (by rfl) (by rfl) (by exact Nat.le_of_ble_eq_true rfl) (by rfl) ?_
      refine zs_iload_n (pc := 81) dC_putEntry_81 rfl ?_
      rw [e1, e2, e4]
      have hC2 := (hC.set hs (zbeg (Q (p (g 0))) (g 1) w (g 2 - 1))).setF (zFg (zadd g w))
      exact zs_iret (pc := 82) dC_putEntry_82 rfl rfl (by omega) (by omega) (⟨rfl, rfl, (zfr.E hs).tr (zfr.u (by omega) (by omega)), p, _, hC2, hp, fun j hj => ?_⟩)

