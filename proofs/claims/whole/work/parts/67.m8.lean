/-! the model's questions, with loops -/
/-- every rank below the number of results is some entry's -/
theorem zRG_ex {g : Nat → Nat} {dn v : Nat} : ∀ i, ∃ (s : Nat) (u : Nat → Nat) (f : Nat → Int32), zRG g dn v i s u f := by
  intro i
  induction i with
  | zero => exact ⟨0, fun _ => 0, fun _ => 0, rfl, fun j hj => absurd hj (by omega)⟩
  | succ i ih =>
    obtain ⟨s, u, f, hG⟩ := ih
    cases hmt : zmt2 g dn v i with
    | false => exact ⟨s, u, f, zRI.n hG hmt⟩
    | true =>
      refine ⟨s + 1, _, _, zRI.y (c := zposI f (zscore (eg g i) dn v) s) hG hmt (zposI_le s) (fun j k hj hk hf hr hmk => ?_)⟩
      have hfk : f j = zscore (eg g k) dn v := hf
      have hlt : f j < zscore (eg g i) dn v ↔ zsc g dn v k < zsc g dn v i := by rw [hfk]; exact Int32.lt_iff_toInt_lt
      constructor
      · intro q
        exact hlt.mp (zposI_hi s j q hj)
      · intro q
        refine Nat.not_lt.mp fun hjc => ?_
        rcases zposI_lw (f := f) (S := zscore (eg g i) dn v) s with h0 | h0
        · omega
        · have hle := zposI_le (f := f) (S := zscore (eg g i) dn v) s
          obtain ⟨k1, a1, a2, a3, a4, a5⟩ := hG.2 (zposI f (zscore (eg g i) dn v) s - 1) (by omega)
          have hf1 : f (zposI f (zscore (eg g i) dn v) s - 1) = zscore (eg g k1) dn v := a5
          rw [hf1] at h0
          have h3 : ¬ zsc g dn v k1 < zsc g dn v i := fun q3 => h0 (Int32.lt_iff_toInt_lt.mpr q3)
          have h4 := zrk_lt (b := k) a1 a2 (by omega : zsc g dn v k < zsc g dn v k1 ∨ (zsc g dn v k1 = zsc g dn v k ∧ k1 < k))
          omega
theorem zrk_res {g : Nat → Nat} {dn v k : Nat} (hk : k < g 0) (hm : zmt2 g dn v k = true) : zrk (zmt2 g dn v) (zsc g dn v) (g 0) k < zres g dn v := by
  unfold zrk
  refine zcnt_sub2 (c := k) (g 0) (fun o ho q => (Bool.and_eq_true_iff.mp q).1) hk ?_ hm
  show (zmt2 g dn v k && zbt (zsc g dn v) k k) = false
  have e : zbt (zsc g dn v) k k = false := decide_eq_false (by omega)
  rw [e, Bool.and_false]
def zrkP (g : Nat → Nat) (dn v j : Nat) : Nat → Bool := fun k => zmt2 g dn v k && (zrk (zmt2 g dn v) (zsc g dn v) (g 0) k == j)
theorem zrkP_any {g : Nat → Nat} {dn v j : Nat} : zany (zrkP g dn v j) (g 0) = decide (j < zres g dn v) := by
  rw [Bool.eq_iff_iff, decide_eq_true_iff, zany_iff]
  constructor
  · rintro ⟨k, hk, h⟩
    obtain ⟨h1, h2⟩ := Bool.and_eq_true_iff.mp h
    rw [← beq_iff_eq.mp h2]
    exact zrk_res hk h1
  · intro h
    obtain ⟨s, u, f, h1, h2⟩ := zRG_ex (g := g) (dn := dn) (v := v) (g 0)
    have h3 : s = zres g dn v := h1
    obtain ⟨k, k1, k2, k3, -⟩ := h2 j (by omega)
    exact ⟨k, k1, by show (_ && _) = true; rw [k2, k3, beq_self_eq_true]; rfl⟩
theorem zrkAt_y {g : Nat → Nat} {dn v j : Nat} (h : j < zres g dn v) : zrkAt g dn v j < g 0 ∧ zrkP g dn v j (zrkAt g dn v j) = true ∧ ∀ i, i < zrkAt g dn v j → zrkP g dn v j i = false := zfst_y (p := zrkP g dn v j) (g 0) (by rw [zrkP_any]; exact decide_eq_true h)
theorem zsc_toInt {B k : Nat} {g : Nat → Nat} (hI : IG B g) (hB : B < 2 ^ 20) (hk : k < g 0) (dn v : Nat) : -200 ≤ zsc g dn v k ∧ zsc g dn v k ≤ 200 := by
  obtain ⟨b0, b1, b2, b3, b4, b5, b6⟩ := hI.b hB hk
  have hm : zmany (eg g k) dn v ≤ eg g k 5 := zcnt_le _ _
  have h2 := (hI.w hk).2
  have h3 := zlife_le (eg g k)
  unfold zsc zscore
  rw [pk_sub_toInt (by omega) (by omega)]
  omega
theorem zscby {B k o : Nat} {g : Nat → Nat} (hI : IG B g) (hB : B < 2 ^ 20) (hk : k < g 0) (ho : o < g 0) (dn v : Nat) : (zscore (eg g o) dn v - zscore (eg g k) dn v).toInt = zsc g dn v o - zsc g dn v k := by
  have h1 := zsc_toInt hI hB hk dn v
  have h2 := zsc_toInt hI hB ho dn v
  show _ = (zscore (eg g o) dn v).toInt - (zscore (eg g k) dn v).toInt
  have h3 : (zscore (eg g k) dn v).toInt = zsc g dn v k := rfl
  have h4 : (zscore (eg g o) dn v).toInt = zsc g dn v o := rfl
  rw [Int32.toInt_sub, h3, h4, Int.bmod_eq_of_le] <;> omega
theorem lpi_M_result {Γ : zG} {l : Launch} (hl : l.stackTraces = false) {d : Nat} (hd : 4 ≤ d) {h : zH} {n a : Nat} {g : Nat → Nat} {s3 s5 s6 s7 s8 s10 s12 s16 s17 s18 s19 s20 : Int32} {B k dn v : Nat} {w : Int32} {FN : List Frame → Array Value → State → State → Prop} (hI : IG B g) (hB : B < 2 ^ 20) (h1 : dn ≤ 3) (hv : v < 2 ^ 31) (hk : k < g 0) (K : ∀ x7 x8, Z Γ l mM_result d 0 0 FN 106 [some (.ref a), some (.int (nI dn)), some (.int (nI v)), some (.int w), some (.int (nI k)), some (.int (nI (zrk (zmt2 g dn v) (zsc g dn v) (g 0) k))), some (.int (nI (g 0))), x7, x8] [] (z2 h a (zAr 0 246 (g)) (zMo a s3 s5 s6 s7 s8 s10 s12 s16 s17 s18 s19 s20)) n 0 0) : ∀ i j, i + j = g 0 → ∀ x7 x8, Z Γ l mM_result d 0 0 FN 20 [some (.ref a), some (.int (nI dn)), some (.int (nI v)), some (.int w), some (.int (nI k)), some (.int (nI (zrk (zmt2 g dn v) (zsc g dn v) j k))), some (.int (nI j)), x7, x8] [] (z2 h a (zAr 0 246 (g)) (zMo a s3 s5 s6 s7 s8 s10 s12 s16 s17 s18 s19 s20)) n 0 0 := by
  have i0 := hI.1
  have h5k := hI.s6 k hk
  have hck := hI.c hk
  intro i
  induction i with
  | zero =>
    intro j hj x7 x8
    obtain rfl : j = g 0 := by omega
    refine zs_iload (pc := 20) dM_result_20 rfl ?_
    refine zs_aload_n (pc := 22) dM_result_22 rfl ?_
    refine zs_get (pc := 23) dM_result_23 fM_9 (by first | exact z2_a | exact z2_1) (by rfl) ?_
    refine zs_iconst (pc := 26) dM_result_26 zi_0 ?_
    refine zn_iald (pc := 27) dM_result_27 (by first | exact z2_a | exact z2_1) (by omega) (by first | decide | assumption) ?_
    refine zn_icmp_ge (pc := 28) 106 dM_result_28 rfl (by omega) (by omega) (fun _ => ?_) (fun h9 => absurd h9 (by omega))
    exact K _ _
  | succ i ih =>
    intro j hj x7 x8
    have hz := ih (j + 1) (by omega)
    have h5 := hI.s6 j (by omega)
    have hc := hI.c (k := j) (by omega)
    have hby := zscby hI hB hk (o := j) (by omega) dn v
    have hm6 : zmany (eg g j) dn v ≤ eg g j 5 := zcnt_le _ _
    have hsc1 := zsc_toInt hI hB hk dn v
    have hsc2 := zsc_toInt hI hB (k := j) (by omega) dn v
    have e0 : (0 : Int32).toInt = 0 := by decide
    have hrk : zrk (zmt2 g dn v) (zsc g dn v) (j + 1) k = zrk (zmt2 g dn v) (zsc g dn v) j k + (if (zmt2 g dn v j && zbt (zsc g dn v) j k) = true then 1 else 0) := rfl
    refine zs_iload (pc := 20) dM_result_20 rfl ?_
    refine zs_aload_n (pc := 22) dM_result_22 rfl ?_
    refine zs_get (pc := 23) dM_result_23 fM_9 (by first | exact z2_a | exact z2_1) (by rfl) ?_
    refine zs_iconst (pc := 26) dM_result_26 zi_0 ?_
    refine zn_iald (pc := 27) dM_result_27 (by first | exact z2_a | exact z2_1) (by omega) (by first | decide | assumption) ?_
    refine zn_icmp_ge (pc := 28) 106 dM_result_28 rfl (by omega) (by omega) (fun h9 => absurd h9 (by omega)) (fun _ => ?_)
    refine zs_aload_n (pc := 31) dM_result_31 rfl ?_
    refine zs_iload (pc := 32) dM_result_32 rfl ?_
    refine zs_iload_n (pc := 34) dM_result_34 rfl ?_
    refine zs_iload_n (pc := 35) dM_result_35 rfl ?_
    refine zcV1_3 (pc := 36) (d2 := d - 1) (s_M_score hl (by omega) (by omega) h5 hc h1 hv) dM_result_36 kM_74 mdM_score miM_score mvM_score rfl (by exact z2_a) rfl (Nat.le_of_ble_eq_true rfl) (by omega) (by omega) (by omega) ?_
    refine zs_aload_n (pc := 39) dM_result_39 rfl ?_
    refine zs_iload (pc := 40) dM_result_40 rfl ?_
    refine zs_iload_n (pc := 42) dM_result_42 rfl ?_
    refine zs_iload_n (pc := 43) dM_result_43 rfl ?_
    refine zcV1_3 (pc := 44) (d2 := d - 1) (s_M_score hl (by omega) (by omega) h5k hck h1 hv) dM_result_44 kM_74 mdM_score miM_score mvM_score rfl (by exact z2_a) rfl (Nat.le_of_ble_eq_true rfl) (by omega) (by omega) (by omega) ?_
    refine zs_isub (pc := 47) dM_result_47 ?_
    refine zs_istore (pc := 48) (ls2 := [_, _, _, _, _, _, _, _, _]) dM_result_48 (Nat.le_of_ble_eq_true rfl) rfl ?_
    refine zs_aload_n (pc := 50) dM_result_50 rfl ?_
    refine zs_iload (pc := 51) dM_result_51 rfl ?_
    refine zs_iload_n (pc := 53) dM_result_53 rfl ?_
    refine zs_iload_n (pc := 54) dM_result_54 rfl ?_
    refine zcV1_3 (pc := 55) (d2 := d - 1) (s_M_many hl (by omega) (by omega) h5 hc h1 hv) dM_result_55 kM_70 mdM_many miM_many mvM_many rfl (by exact z2_a) rfl (Nat.le_of_ble_eq_true rfl) (by omega) (by omega) (by omega) ?_
    generalize zscore (eg g j) dn v - zscore (eg g k) dn v = by9 at hby ⊢
    have no : (zmt2 g dn v j && zbt (zsc g dn v) j k) = false → Z Γ l mM_result d 0 0 FN 82 [some (.ref a), some (.int (nI dn)), some (.int (nI v)), some (.int w), some (.int (nI k)), some (.int (nI (zrk (zmt2 g dn v) (zsc g dn v) j k))), some (.int (nI j)), some (.int by9), x8] [] (z2 h a (zAr 0 246 (g)) (zMo a s3 s5 s6 s7 s8 s10 s12 s16 s17 s18 s19 s20)) n 0 0 := fun q => by
      rw [hrk, q, if_neg (by decide)] at hz
      refine zs_iconst (pc := 82) dM_result_82 zi_0 ?_
      refine zs_istore (pc := 83) (ls2 := [_, _, _, _, _, _, _, _, _]) dM_result_83 (Nat.le_of_ble_eq_true rfl) rfl ?_
      refine zs_iload (pc := 85) dM_result_85 rfl ?_
      refine zs_iload (pc := 87) dM_result_87 rfl ?_
      refine zn_if_eq (pc := 89) 96 dM_result_89 rfl (by omega) (fun _ => ?_) (fun h9 => absurd h9 (by decide))
      refine zs_iconst (pc := 96) dM_result_96 zi_0 ?_
      refine zn_iadd (pc := 97) dM_result_97 ?_
      refine zs_istore (pc := 98) (ls2 := [_, _, _, _, _, _, _, _, _]) dM_result_98 (Nat.le_of_ble_eq_true rfl) rfl ?_
      refine zn_iinc (pc := 100) (ls2 := [_, _, _, _, _, _, _, _, _]) dM_result_100 rfl (Nat.le_of_ble_eq_true rfl) rfl ?_
      refine zs_goto (pc := 103) 20 dM_result_103 rfl ?_
      exact hz _ _
    have yes : (zmt2 g dn v j && zbt (zsc g dn v) j k) = true → Z Γ l mM_result d 0 0 FN 78 [some (.ref a), some (.int (nI dn)), some (.int (nI v)), some (.int w), some (.int (nI k)), some (.int (nI (zrk (zmt2 g dn v) (zsc g dn v) j k))), some (.int (nI j)), some (.int by9), x8] [] (z2 h a (zAr 0 246 (g)) (zMo a s3 s5 s6 s7 s8 s10 s12 s16 s17 s18 s19 s20)) n 0 0 := fun q => by
      rw [hrk, q, if_pos rfl] at hz
      refine zs_iconst (pc := 78) dM_result_78 zi_1 ?_
      refine zs_goto (pc := 79) 83 dM_result_79 rfl ?_
      refine zs_istore (pc := 83) (ls2 := [_, _, _, _, _, _, _, _, _]) dM_result_83 (Nat.le_of_ble_eq_true rfl) rfl ?_
      refine zs_iload (pc := 85) dM_result_85 rfl ?_
      refine zs_iload (pc := 87) dM_result_87 rfl ?_
      refine zn_if_eq (pc := 89) 96 dM_result_89 rfl (by omega) (fun h9 => absurd h9 (by decide)) (fun _ => ?_)
      refine zs_iconst (pc := 92) dM_result_92 zi_1 ?_
      refine zs_goto (pc := 93) 97 dM_result_93 rfl ?_
      refine zn_iadd (pc := 97) dM_result_97 ?_
      refine zs_istore (pc := 98) (ls2 := [_, _, _, _, _, _, _, _, _]) dM_result_98 (Nat.le_of_ble_eq_true rfl) rfl ?_
      refine zn_iinc (pc := 100) (ls2 := [_, _, _, _, _, _, _, _, _]) dM_result_100 rfl (Nat.le_of_ble_eq_true rfl) rfl ?_
      refine zs_goto (pc := 103) 20 dM_result_103 rfl ?_
      exact hz _ _
    by_cases hm : 0 < zmany (eg g j) dn v
    · have hmt : zmt2 g dn v j = true := decide_eq_true hm
      refine zn_if_le (pc := 58) 82 dM_result_58 rfl (by omega) (fun h9 => absurd h9 (by omega)) (fun _ => ?_)
      by_cases hp : zsc g dn v k < zsc g dn v j
      · have hb : zbt (zsc g dn v) j k = true := decide_eq_true (Or.inl hp)
        refine zs_iload (pc := 61) dM_result_61 rfl ?_
        refine zs_if_gt (pc := 63) 78 dM_result_63 rfl (fun _ => ?_) (fun h9 => absurd h9 (fun q => q (Int32.lt_iff_toInt_lt.mpr (by rw [e0]; omega))))
        exact yes (by rw [hmt, hb]; rfl)
      · by_cases he : zsc g dn v j = zsc g dn v k
        · have h09 : by9 = 0 := Int32.toInt_inj.mp (by rw [e0]; omega)
          by_cases hjk : j < k
          · have hb : zbt (zsc g dn v) j k = true := decide_eq_true (Or.inr ⟨he, hjk⟩)
            refine zs_iload (pc := 61) dM_result_61 rfl ?_
            refine zs_if_gt (pc := 63) 78 dM_result_63 rfl (fun h9 => absurd h9 (fun q => absurd (Int32.lt_iff_toInt_lt.mp q) (by rw [e0]; omega))) (fun _ => ?_)
            refine zs_iload (pc := 66) dM_result_66 rfl ?_
            refine zs_if_ne (pc := 68) 82 dM_result_68 rfl (fun h9 => absurd h9 (fun q => q h09)) (fun _ => ?_)
            refine zs_iload (pc := 71) dM_result_71 rfl ?_
            refine zs_iload (pc := 73) dM_result_73 rfl ?_
            refine zn_icmp_ge (pc := 75) 82 dM_result_75 rfl (by omega) (by omega) (fun h9 => absurd h9 (by omega)) (fun _ => ?_)
            exact yes (by rw [hmt, hb]; rfl)
          · have hb : zbt (zsc g dn v) j k = false := decide_eq_false (by omega)
            refine zs_iload (pc := 61) dM_result_61 rfl ?_
            refine zs_if_gt (pc := 63) 78 dM_result_63 rfl (fun h9 => absurd h9 (fun q => absurd (Int32.lt_iff_toInt_lt.mp q) (by rw [e0]; omega))) (fun _ => ?_)
            refine zs_iload (pc := 66) dM_result_66 rfl ?_
            refine zs_if_ne (pc := 68) 82 dM_result_68 rfl (fun h9 => absurd h9 (fun q => q h09)) (fun _ => ?_)
            refine zs_iload (pc := 71) dM_result_71 rfl ?_
            refine zs_iload (pc := 73) dM_result_73 rfl ?_
            refine zn_icmp_ge (pc := 75) 82 dM_result_75 rfl (by omega) (by omega) (fun _ => ?_) (fun h9 => absurd h9 (by omega))
            exact no (by rw [hmt, hb]; rfl)
        · have hb : zbt (zsc g dn v) j k = false := decide_eq_false (by omega)
          refine zs_iload (pc := 61) dM_result_61 rfl ?_
          refine zs_if_gt (pc := 63) 78 dM_result_63 rfl (fun h9 => absurd h9 (fun q => absurd (Int32.lt_iff_toInt_lt.mp q) (by rw [e0]; omega))) (fun _ => ?_)
          refine zs_iload (pc := 66) dM_result_66 rfl ?_
          refine zs_if_ne (pc := 68) 82 dM_result_68 rfl (fun _ => ?_) (fun h9 => absurd h9 (fun q => he (by rw [q, e0] at hby; omega)))
          exact no (by rw [hmt, hb]; rfl)
    · have hmt : zmt2 g dn v j = false := decide_eq_false hm
      refine zn_if_le (pc := 58) 82 dM_result_58 rfl (by omega) (fun _ => ?_) (fun h9 => absurd h9 (by omega))
      exact no (by rw [hmt]; rfl)
theorem zrk_le {g : Nat → Nat} {dn v i k : Nat} : zrk (zmt2 g dn v) (zsc g dn v) i k ≤ i := zcnt_le _ _
theorem lp_M_result {Γ : zG} {l : Launch} (hl : l.stackTraces = false) {d : Nat} (hd : 4 ≤ d) {h : zH} {n a : Nat} {g : Nat → Nat} {s3 s5 s6 s7 s8 s10 s12 s16 s17 s18 s19 s20 : Int32} {B t dn v : Nat} {w : Int32} {FN : List Frame → Array Value → State → State → Prop} (hI : IG B g) (hB : B < 2 ^ 20) (h1 : dn ≤ 3) (hv : v < 2 ^ 31) (ht : t ≤ g 0) (hno : ∀ k, k < t → ¬ (zmt2 g dn v k = true ∧ nI (zrk (zmt2 g dn v) (zsc g dn v) (g 0) k) = w)) (K : ∀ x5 x6 x7 x8, Z Γ l mM_result d 0 0 FN 3 [some (.ref a), some (.int (nI dn)), some (.int (nI v)), some (.int w), some (.int (nI t)), x5, x6, x7, x8] [] (z2 h a (zAr 0 246 (g)) (zMo a s3 s5 s6 s7 s8 s10 s12 s16 s17 s18 s19 s20)) n 0 0) : ∀ i j, i + j = t → ∀ x5 x6 x7 x8, Z Γ l mM_result d 0 0 FN 3 [some (.ref a), some (.int (nI dn)), some (.int (nI v)), some (.int w), some (.int (nI j)), x5, x6, x7, x8] [] (z2 h a (zAr 0 246 (g)) (zMo a s3 s5 s6 s7 s8 s10 s12 s16 s17 s18 s19 s20)) n 0 0 := by
  have i0 := hI.1
  intro i
  induction i with
  | zero =>
    intro j hj x5 x6 x7 x8
    obtain rfl : j = t := by omega
    exact K _ _ _ _
  | succ i ih =>
    intro j hj x5 x6 x7 x8
    have hz := ih (j + 1) (by omega)
    have h5 := hI.s6 j (by omega)
    have hc := hI.c (k := j) (by omega)
    have hm6 : zmany (eg g j) dn v ≤ eg g j 5 := zcnt_le _ _
    have hnj := hno j (by omega)
    refine zs_iload (pc := 3) dM_result_3 rfl ?_
    refine zs_aload_n (pc := 5) dM_result_5 rfl ?_
    refine zs_get (pc := 6) dM_result_6 fM_9 (by first | exact z2_a | exact z2_1) (by rfl) ?_
    refine zs_iconst (pc := 9) dM_result_9 zi_0 ?_
    refine zn_iald (pc := 10) dM_result_10 (by first | exact z2_a | exact z2_1) (by omega) (by first | decide | assumption) ?_
    refine zn_icmp_ge (pc := 11) 132 dM_result_11 rfl (by omega) (by omega) (fun h9 => absurd h9 (by omega)) (fun _ => ?_)
    refine zs_iconst (pc := 14) dM_result_14 zi_0 ?_
    refine zs_istore (pc := 15) (ls2 := [_, _, _, _, _, _, _, _, _]) dM_result_15 (Nat.le_of_ble_eq_true rfl) rfl ?_
    refine zs_iconst (pc := 17) dM_result_17 zi_0 ?_
    refine zs_istore (pc := 18) (ls2 := [_, _, _, _, _, _, _, _, _]) dM_result_18 (Nat.le_of_ble_eq_true rfl) rfl ?_
    refine lpi_M_result hl hd hI hB h1 hv (k := j) (by omega) (fun x7 x8 => ?_) (g 0) 0 rfl _ _
    by_cases e : nI (zrk (zmt2 g dn v) (zsc g dn v) (g 0) j) = w
    · have hm : ¬ 0 < zmany (eg g j) dn v := fun q => hnj ⟨decide_eq_true q, e⟩
      refine zs_iload (pc := 106) dM_result_106 rfl ?_
      refine zs_iload_n (pc := 108) dM_result_108 rfl ?_
      refine zs_icmp_ne (pc := 109) 126 dM_result_109 rfl (fun h9 => absurd h9 (fun q => q e)) (fun _ => ?_)
      refine zs_aload_n (pc := 112) dM_result_112 rfl ?_
      refine zs_iload (pc := 113) dM_result_113 rfl ?_
      refine zs_iload_n (pc := 115) dM_result_115 rfl ?_
      refine zs_iload_n (pc := 116) dM_result_116 rfl ?_
      refine zcV1_3 (pc := 117) (d2 := d - 1) (s_M_many hl (by omega) (by omega) h5 hc h1 hv) dM_result_117 kM_70 mdM_many miM_many mvM_many rfl (by exact z2_a) rfl (Nat.le_of_ble_eq_true rfl) (by omega) (by omega) (by omega) ?_
      refine zn_if_le (pc := 120) 126 dM_result_120 rfl (by omega) (fun _ => ?_) (fun h9 => absurd h9 (by omega))
      refine zn_iinc (pc := 126) (ls2 := [_, _, _, _, _, _, _, _, _]) dM_result_126 rfl (Nat.le_of_ble_eq_true rfl) rfl ?_
      refine zs_goto (pc := 129) 3 dM_result_129 rfl ?_
      exact hz _ _ _ _
    · refine zs_iload (pc := 106) dM_result_106 rfl ?_
      refine zs_iload_n (pc := 108) dM_result_108 rfl ?_
      refine zs_icmp_ne (pc := 109) 126 dM_result_109 rfl (fun _ => ?_) (fun h9 => absurd h9 (e))
      refine zn_iinc (pc := 126) (ls2 := [_, _, _, _, _, _, _, _, _]) dM_result_126 rfl (Nat.le_of_ble_eq_true rfl) rfl ?_
      refine zs_goto (pc := 129) 3 dM_result_129 rfl ?_
      exact hz _ _ _ _
theorem s_M_result_y {Γ : zG} {l : Launch} (hl : l.stackTraces = false) {d : Nat} (hd : 4 ≤ d) {h : zH} {n a : Nat} {g : Nat → Nat} {s3 s5 s6 s7 s8 s10 s12 s16 s17 s18 s19 s20 : Int32} {B j dn v : Nat} (hI : IG B g) (hB : B < 2 ^ 20) (h1 : dn ≤ 3) (hv : v < 2 ^ 31) (hj : j < zres g dn v) : zC Γ l d mM_result [.ref a, .int (nI dn), .int (nI v), .int (nI j)] (z2 h a (zAr 0 246 (g)) (zMo a s3 s5 s6 s7 s8 s10 s12 s16 s17 s18 s19 s20)) n 0 0 (zR (some (.int (nI (zrkAt g dn v j)))) (z2 h a (zAr 0 246 (g)) (zMo a s3 s5 s6 s7 s8 s10 s12 s16 s17 s18 s19 s20)) n) := by
  have i0 := hI.1
  have hres := zres_le (g := g) (dn := dn) (v := v)
  obtain ⟨t1, t2, t3⟩ := zrkAt_y hj
  generalize zrkAt g dn v j = t at t1 t2 t3 ⊢
  obtain ⟨a1, a2⟩ := Bool.and_eq_true_iff.mp t2
  have a3 : zrk (zmt2 g dn v) (zsc g dn v) (g 0) t = j := beq_iff_eq.mp a2
  have a4 : 0 < zmany (eg g t) dn v := of_decide_eq_true a1
  have h5 := hI.s6 t t1
  have hc := hI.c t1
  have hm6 : zmany (eg g t) dn v ≤ eg g t 5 := zcnt_le _ _
  refine zC_of (ls := [some (.ref a), some (.int (nI dn)), some (.int (nI v)), some (.int (nI j)), none, none, none, none, none]) hl (by decide +kernel) rfl (Nat.le_of_ble_eq_true rfl) rfl ?_
  refine zs_iconst (pc := 0) dM_result_0 zi_0 ?_
  refine zs_istore (pc := 1) (ls2 := [_, _, _, _, _, _, _, _, _]) dM_result_1 (Nat.le_of_ble_eq_true rfl) rfl ?_
  refine lp_M_result hl hd hI hB h1 hv (Nat.le_of_lt t1) (fun k hk q => ?_) (fun x5 x6 x7 x8 => ?_) t 0 rfl _ _ _ _
  · have b1 := t3 k hk
    have b3 := zrk_le (g := g) (dn := dn) (v := v) (i := g 0) (k := k)
    have b2 : (zrk (zmt2 g dn v) (zsc g dn v) (g 0) k == j) = true := by rw [(nI_eq (by omega) (by omega)).mp q.2]; exact beq_self_eq_true _
    have b4 : (zmt2 g dn v k && (zrk (zmt2 g dn v) (zsc g dn v) (g 0) k == j)) = false := b1
    rw [q.1, b2] at b4
    cases b4
  · refine zs_iload (pc := 3) dM_result_3 rfl ?_
    refine zs_aload_n (pc := 5) dM_result_5 rfl ?_
    refine zs_get (pc := 6) dM_result_6 fM_9 (by first | exact z2_a | exact z2_1) (by rfl) ?_
    refine zs_iconst (pc := 9) dM_result_9 zi_0 ?_
    refine zn_iald (pc := 10) dM_result_10 (by first | exact z2_a | exact z2_1) (by omega) (by first | decide | assumption) ?_
    refine zn_icmp_ge (pc := 11) 132 dM_result_11 rfl (by omega) (by omega) (fun h9 => absurd h9 (by omega)) (fun _ => ?_)
    refine zs_iconst (pc := 14) dM_result_14 zi_0 ?_
    refine zs_istore (pc := 15) (ls2 := [_, _, _, _, _, _, _, _, _]) dM_result_15 (Nat.le_of_ble_eq_true rfl) rfl ?_
    refine zs_iconst (pc := 17) dM_result_17 zi_0 ?_
    refine zs_istore (pc := 18) (ls2 := [_, _, _, _, _, _, _, _, _]) dM_result_18 (Nat.le_of_ble_eq_true rfl) rfl ?_
    refine lpi_M_result hl hd hI hB h1 hv t1 (fun x7 x8 => ?_) (g 0) 0 rfl _ _
    rw [a3]
    refine zs_iload (pc := 106) dM_result_106 rfl ?_
    refine zs_iload_n (pc := 108) dM_result_108 rfl ?_
    refine zn_icmp_ne (pc := 109) 126 dM_result_109 rfl (by omega) (by omega) (fun h9 => absurd h9 (fun q => q rfl)) (fun _ => ?_)
    refine zs_aload_n (pc := 112) dM_result_112 rfl ?_
    refine zs_iload (pc := 113) dM_result_113 rfl ?_
    refine zs_iload_n (pc := 115) dM_result_115 rfl ?_
    refine zs_iload_n (pc := 116) dM_result_116 rfl ?_
    refine zcV1_3 (pc := 117) (d2 := d - 1) (s_M_many hl (by omega) (by omega) h5 hc h1 hv) dM_result_117 kM_70 mdM_many miM_many mvM_many rfl (by exact z2_a) rfl (Nat.le_of_ble_eq_true rfl) (by omega) (by omega) (by omega) ?_
    refine zn_if_le (pc := 120) 126 dM_result_120 rfl (by omega) (fun h9 => absurd h9 (by omega)) (fun _ => ?_)
    refine zs_iload (pc := 123) dM_result_123 rfl ?_
    exact zs_iret (pc := 125) dM_result_125 rfl rfl (by omega) (by omega) (⟨rfl, rfl, rfl⟩)
theorem s_M_result_n {Γ : zG} {l : Launch} (hl : l.stackTraces = false) {d : Nat} (hd : 4 ≤ d) {h : zH} {n a : Nat} {g : Nat → Nat} {s3 s5 s6 s7 s8 s10 s12 s16 s17 s18 s19 s20 : Int32} {B dn v : Nat} {w : Int32} (hI : IG B g) (hB : B < 2 ^ 20) (h1 : dn ≤ 3) (hv : v < 2 ^ 31) (hw : zIx w (zres g dn v) = false) : zC Γ l d mM_result [.ref a, .int (nI dn), .int (nI v), .int w] (z2 h a (zAr 0 246 (g)) (zMo a s3 s5 s6 s7 s8 s10 s12 s16 s17 s18 s19 s20)) n 0 0 (zR (some (.int (-1))) (z2 h a (zAr 0 246 (g)) (zMo a s3 s5 s6 s7 s8 s10 s12 s16 s17 s18 s19 s20)) n) := by
  have i0 := hI.1
  refine zC_of (ls := [some (.ref a), some (.int (nI dn)), some (.int (nI v)), some (.int w), none, none, none, none, none]) hl (by decide +kernel) rfl (Nat.le_of_ble_eq_true rfl) rfl ?_
  refine zs_iconst (pc := 0) dM_result_0 zi_0 ?_
  refine zs_istore (pc := 1) (ls2 := [_, _, _, _, _, _, _, _, _]) dM_result_1 (Nat.le_of_ble_eq_true rfl) rfl ?_
  refine lp_M_result hl hd hI hB h1 hv (Nat.le_refl _) (fun k hk q => ?_) (fun x5 x6 x7 x8 => ?_) (g 0) 0 rfl _ _ _ _
  · have b1 := zrk_res hk q.1
    have b3 := zrk_le (g := g) (dn := dn) (v := v) (i := g 0) (k := k)
    have hw2 := of_decide_eq_false hw
    rw [← q.2, nI_toInt (by omega)] at hw2
    omega
  · refine zs_iload (pc := 3) dM_result_3 rfl ?_
    refine zs_aload_n (pc := 5) dM_result_5 rfl ?_
    refine zs_get (pc := 6) dM_result_6 fM_9 (by first | exact z2_a | exact z2_1) (by rfl) ?_
    refine zs_iconst (pc := 9) dM_result_9 zi_0 ?_
    refine zn_iald (pc := 10) dM_result_10 (by first | exact z2_a | exact z2_1) (by omega) (by first | decide | assumption) ?_
    refine zn_icmp_ge (pc := 11) 132 dM_result_11 rfl (by omega) (by omega) (fun _ => ?_) (fun h9 => absurd h9 (by omega))
    refine zs_iconst (pc := 132) dM_result_132 zi_m1 ?_
    exact zs_iret (pc := 133) dM_result_133 rfl rfl (by omega) (by omega) (⟨rfl, rfl, rfl⟩)
theorem s_M_resultAt {Γ : zG} {l : Launch} (hl : l.stackTraces = false) {d : Nat} (hd : 5 ≤ d) {h : zH} {n a : Nat} {g : Nat → Nat} {s3 s5 s6 s7 s8 s10 s12 s16 s17 s18 s19 s20 : Int32} {B : Nat} (hI : IG B g) (hB : B < 2 ^ 20) (y z w : Int32) : zC Γ l d mM_resultAt [.ref a, .int y, .int z, .int w] (z2 h a (zAr 0 246 (g)) (zMo a s3 s5 s6 s7 s8 s10 s12 s16 s17 s18 s19 s20)) n 0 0 (zR (some (.int (aResAt g y z w).2)) (z2 h a (zAr 0 246 (g)) (zMo a s3 s5 s6 s7 (nI (aResAt g y z w).1) s10 s12 s16 s17 s18 s19 s20)) n) := by
  have i0 := hI.1
  unfold aResAt
  refine zC_of (ls := [some (.ref a), some (.int y), some (.int z), some (.int w), none]) hl (by decide +kernel) rfl (Nat.le_of_ble_eq_true rfl) rfl ?_
  cases hv : zPv y z with
  | false =>
    rw [if_neg (by decide)]
    have hv2 := zPv_n hv
    refine zs_aload_n (pc := 0) dM_resultAt_0 rfl ?_
    refine zs_iconst (pc := 1) dM_resultAt_1 zi_0 ?_
    refine zs_put (pc := 2) (fs2 := [_, _, _, _, _, _, _, _, _, _, _, _, _, _, _, _, _, _, _, _, _]) dM_resultAt_2 fM_45 (by first | exact z2_a | exact z2_1) (by rfl) (by rfl) (by exact Nat.le_of_ble_eq_true rfl) (by rfl) ?_
    rw [z2_O]
    refine zs_iload_n (pc := 5) dM_resultAt_5 rfl ?_
    refine zs_iload_n (pc := 6) dM_resultAt_6 rfl ?_
    refine zs_iconst (pc := 7) dM_resultAt_7 zi_3 ?_
    refine zcS1_3 (pc := 8) (d2 := d - 1) (s_M_isPrefix_n hl (by omega) (fun ⟨a1, a2, a3, _⟩ => hv2 ⟨a1, a2, a3⟩) (by decide)) dM_resultAt_8 kM_143 mdM_isPrefix msM_isPrefix rfl (Nat.le_of_ble_eq_true rfl) (by omega) (by omega) (by omega) ?_
    refine zs_if_ne (pc := 11) 20 dM_resultAt_11 rfl (fun h9 => absurd h9 (by decide)) (fun _ => ?_)
    refine zs_aload_n (pc := 14) dM_resultAt_14 rfl ?_
    refine zs_iconst (pc := 15) dM_resultAt_15 zi_1 ?_
    refine zcV1_1 (pc := 16) (d2 := d - 1) (s_M_throwing hl) dM_resultAt_16 kM_90 mdM_throwing miM_throwing mvM_throwing rfl (by exact z2_a) rfl (Nat.le_of_ble_eq_true rfl) (by omega) (by omega) (by omega) ?_
    exact zs_iret (pc := 19) dM_resultAt_19 rfl rfl (by omega) (by omega) (⟨rfl, rfl, rfl⟩)
  | true =>
    rw [if_pos rfl]
    have hv2 := zPv_y hv
    generalize y.toInt.toNat = dn at hv2 ⊢
    generalize z.toInt.toNat = v at hv2 ⊢
    have hv3 := hv2
    obtain ⟨rfl, rfl, q1, q2⟩ := hv3
    have h3 := z10 q1
    cases hw : zIx w (zres g dn v) with
    | true =>
      rw [if_pos rfl]
      obtain ⟨w1, w2⟩ := zIx_y hw
      generalize w.toInt.toNat = j at w1 w2 ⊢
      subst w2
      have t1 := (zrkAt_y w1).1
      refine zs_aload_n (pc := 0) dM_resultAt_0 rfl ?_
      refine zs_iconst (pc := 1) dM_resultAt_1 zi_0 ?_
      refine zs_put (pc := 2) (fs2 := [_, _, _, _, _, _, _, _, _, _, _, _, _, _, _, _, _, _, _, _, _]) dM_resultAt_2 fM_45 (by first | exact z2_a | exact z2_1) (by rfl) (by rfl) (by exact Nat.le_of_ble_eq_true rfl) (by rfl) ?_
      rw [z2_O]
      refine zs_iload_n (pc := 5) dM_resultAt_5 rfl ?_
      refine zs_iload_n (pc := 6) dM_resultAt_6 rfl ?_
      refine zs_iconst (pc := 7) dM_resultAt_7 zi_3 ?_
      refine zcS1_3 (pc := 8) (d2 := d - 1) (s_M_isPrefix_y hl (by omega) hv2 q1 (by decide)) dM_resultAt_8 kM_143 mdM_isPrefix msM_isPrefix rfl (Nat.le_of_ble_eq_true rfl) (by omega) (by omega) (by omega) ?_
      refine zs_if_ne (pc := 11) 20 dM_resultAt_11 rfl (fun _ => ?_) (fun h9 => absurd h9 (by decide))
      refine zs_aload_n (pc := 20) dM_resultAt_20 rfl ?_
      refine zs_iload_n (pc := 21) dM_resultAt_21 rfl ?_
      refine zs_iload_n (pc := 22) dM_resultAt_22 rfl ?_
      refine zs_iload_n (pc := 23) dM_resultAt_23 rfl ?_
      refine zcV1_3 (pc := 24) (d2 := d - 1) (s_M_result_y hl (by omega) hI hB q1 (by omega) w1) dM_resultAt_24 kM_163 mdM_result miM_result mvM_result rfl (by exact z2_a) rfl (Nat.le_of_ble_eq_true rfl) (by omega) (by omega) (by omega) ?_
      refine zs_istore (pc := 27) (ls2 := [_, _, _, _, _]) dM_resultAt_27 (Nat.le_of_ble_eq_true rfl) rfl ?_
      refine zs_iload (pc := 29) dM_resultAt_29 rfl ?_
      refine zs_iconst (pc := 31) dM_resultAt_31 zi_m1 ?_
      refine zs_icmp_ne (pc := 32) 43 dM_resultAt_32 rfl (fun _ => ?_) (fun h9 => absurd h9 (nI_kn (by omega)))
      refine zs_aload_n (pc := 43) dM_resultAt_43 rfl ?_
      refine zs_get (pc := 44) dM_resultAt_44 fM_9 (by first | exact z2_a | exact z2_1) (by rfl) ?_
      refine zs_iload (pc := 47) dM_resultAt_47 rfl ?_
      refine zcS1_1 (pc := 49) (d2 := d - 1) (s_M_entryAt hl) dM_resultAt_49 kM_51 mdM_entryAt msM_entryAt rfl (Nat.le_of_ble_eq_true rfl) (by omega) (by omega) (by omega) ?_
      refine zn_iald (pc := 52) dM_resultAt_52 (by first | exact z2_a | exact z2_1) (by omega) (by first | decide | assumption) ?_
      exact zs_iret (pc := 53) dM_resultAt_53 rfl rfl (by omega) (by omega) (⟨rfl, rfl, rfl⟩)
    | false =>
      rw [if_neg (by decide)]
      refine zs_aload_n (pc := 0) dM_resultAt_0 rfl ?_
      refine zs_iconst (pc := 1) dM_resultAt_1 zi_0 ?_
      refine zs_put (pc := 2) (fs2 := [_, _, _, _, _, _, _, _, _, _, _, _, _, _, _, _, _, _, _, _, _]) dM_resultAt_2 fM_45 (by first | exact z2_a | exact z2_1) (by rfl) (by rfl) (by exact Nat.le_of_ble_eq_true rfl) (by rfl) ?_
      rw [z2_O]
      refine zs_iload_n (pc := 5) dM_resultAt_5 rfl ?_
      refine zs_iload_n (pc := 6) dM_resultAt_6 rfl ?_
      refine zs_iconst (pc := 7) dM_resultAt_7 zi_3 ?_
      refine zcS1_3 (pc := 8) (d2 := d - 1) (s_M_isPrefix_y hl (by omega) hv2 q1 (by decide)) dM_resultAt_8 kM_143 mdM_isPrefix msM_isPrefix rfl (Nat.le_of_ble_eq_true rfl) (by omega) (by omega) (by omega) ?_
      refine zs_if_ne (pc := 11) 20 dM_resultAt_11 rfl (fun _ => ?_) (fun h9 => absurd h9 (by decide))
      refine zs_aload_n (pc := 20) dM_resultAt_20 rfl ?_
      refine zs_iload_n (pc := 21) dM_resultAt_21 rfl ?_
      refine zs_iload_n (pc := 22) dM_resultAt_22 rfl ?_
      refine zs_iload_n (pc := 23) dM_resultAt_23 rfl ?_
      refine zcV1_3 (pc := 24) (d2 := d - 1) (s_M_result_n hl (by omega) hI hB q1 (by omega) hw) dM_resultAt_24 kM_163 mdM_result miM_result mvM_result rfl (by exact z2_a) rfl (Nat.le_of_ble_eq_true rfl) (by omega) (by omega) (by omega) ?_
      refine zs_istore (pc := 27) (ls2 := [_, _, _, _, _]) dM_resultAt_27 (Nat.le_of_ble_eq_true rfl) rfl ?_
      refine zs_iload (pc := 29) dM_resultAt_29 rfl ?_
      refine zs_iconst (pc := 31) dM_resultAt_31 zi_m1 ?_
      refine zs_icmp_ne (pc := 32) 43 dM_resultAt_32 rfl (fun h9 => absurd h9 (fun q => q rfl)) (fun _ => ?_)
      refine zs_aload_n (pc := 35) dM_resultAt_35 rfl ?_
      refine zs_iconst (pc := 36) dM_resultAt_36 zi_2 ?_
      refine zcV1_1 (pc := 37) (d2 := d - 1) (s_M_throwing hl) dM_resultAt_37 kM_90 mdM_throwing miM_throwing mvM_throwing rfl (by exact z2_a) rfl (Nat.le_of_ble_eq_true rfl) (by omega) (by omega) (by omega) ?_
      refine zs_goto (pc := 40) 53 dM_resultAt_40 rfl ?_
      exact zs_iret (pc := 53) dM_resultAt_53 rfl rfl (by omega) (by omega) (⟨rfl, rfl, rfl⟩)

