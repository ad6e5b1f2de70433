/-! the model's questions, with loops, further -/
theorem lp_M_codesWith {Γ : zG} {l : Launch} (hl : l.stackTraces = false) {d : Nat} (hd : 5 ≤ d) {h : zH} {n a : Nat} {g : Nat → Nat} {s3 s5 s6 s7 s8 s10 s12 s16 s17 s18 s19 s20 : Int32} {B dn v : Nat} {FN : List Frame → Array Value → State → State → Prop} (hI : IG B g) (h1 : dn ≤ 3) (hv : v < 2 ^ 31) (K : Z Γ l mM_codesWith d 0 0 FN 66 [some (.ref a), some (.int (nI dn)), some (.int (nI v)), some (.int (nI (zcod g dn v))), some (.int (nI 1000))] [] (z2 h a (zAr 0 246 (g)) (zMo a s3 s5 s6 s7 (nI 0) s10 s12 s16 s17 s18 s19 s20)) n 0 0) : ∀ i j, i + j = 1000 → Z Γ l mM_codesWith d 0 0 FN 25 [some (.ref a), some (.int (nI dn)), some (.int (nI v)), some (.int (nI (zcnt (fun c => zhas c dn v && decide (0 < zres g 3 c)) j))), some (.int (nI j))] [] (z2 h a (zAr 0 246 (g)) (zMo a s3 s5 s6 s7 (nI 0) s10 s12 s16 s17 s18 s19 s20)) n 0 0 := by
  have i0 := hI.1
  intro i
  induction i with
  | zero =>
    intro j hj
    obtain rfl : j = 1000 := by omega
    refine zs_iload (pc := 25) dM_codesWith_25 rfl ?_
    refine zs_sipush (pc := 27) dM_codesWith_27 (zi_s 1000 (by decide)) ?_
    refine zn_icmp_ge (pc := 30) 66 dM_codesWith_30 rfl (by omega) (by omega) (fun _ => ?_) (fun h9 => absurd h9 (by omega))
    exact K
  | succ i ih =>
    intro j hj
    have hz := ih (j + 1) (by omega)
    have hr := zres_le (g := g) (dn := 3) (v := j)
    refine zs_iload (pc := 25) dM_codesWith_25 rfl ?_
    refine zs_sipush (pc := 27) dM_codesWith_27 (zi_s 1000 (by decide)) ?_
    refine zn_icmp_ge (pc := 30) 66 dM_codesWith_30 rfl (by omega) (by omega) (fun h9 => absurd h9 (by omega)) (fun _ => ?_)
    refine zs_iload_n (pc := 33) dM_codesWith_33 rfl ?_
    refine zs_iload (pc := 34) dM_codesWith_34 rfl ?_
    refine zs_iload_n (pc := 36) dM_codesWith_36 rfl ?_
    refine zs_iload_n (pc := 37) dM_codesWith_37 rfl ?_
    refine zcS1_3 (pc := 38) (d2 := d - 1) (s_M_has hl (by omega) (by omega) h1 hv) dM_codesWith_38 kM_66 mdM_has msM_has rfl (Nat.le_of_ble_eq_true rfl) (by omega) (by omega) (by omega) ?_
    cases hp : zhas j dn v with
    | true =>
      by_cases e : 0 < zres g 3 j
      · rw [zcnt_t (p := fun c => zhas c dn v && decide (0 < zres g 3 c)) (n := j) (by show (zhas j dn v && decide (0 < zres g 3 j)) = true; rw [hp, decide_eq_true e]; rfl)] at hz
        refine zs_if_eq (pc := 41) 57 dM_codesWith_41 rfl (fun h9 => absurd h9 (by decide)) (fun _ => ?_)
        refine zs_aload_n (pc := 44) dM_codesWith_44 rfl ?_
        refine zs_iload (pc := 45) dM_codesWith_45 rfl ?_
        refine zcV1_1 (pc := 47) (d2 := d - 1) (s_M_holders hl (by omega) hI (by omega)) dM_codesWith_47 kM_166 mdM_holders miM_holders mvM_holders rfl (by exact z2_a) rfl (Nat.le_of_ble_eq_true rfl) (by omega) (by omega) (by omega) ?_
        refine zn_if_le (pc := 50) 57 dM_codesWith_50 rfl (by omega) (fun h9 => absurd h9 (by omega)) (fun _ => ?_)
        refine zs_iconst (pc := 53) dM_codesWith_53 zi_1 ?_
        refine zs_goto (pc := 54) 58 dM_codesWith_54 rfl ?_
        refine zn_iadd (pc := 58) dM_codesWith_58 ?_
        refine zs_istore_n (pc := 59) (ls2 := [_, _, _, _, _]) dM_codesWith_59 (Nat.le_of_ble_eq_true rfl) rfl ?_
        refine zn_iinc (pc := 60) (ls2 := [_, _, _, _, _]) dM_codesWith_60 rfl (Nat.le_of_ble_eq_true rfl) rfl ?_
        refine zs_goto (pc := 63) 25 dM_codesWith_63 rfl ?_
        exact hz
      · rw [zcnt_f (p := fun c => zhas c dn v && decide (0 < zres g 3 c)) (n := j) (by show (zhas j dn v && decide (0 < zres g 3 j)) = false; rw [hp, decide_eq_false e]; rfl)] at hz
        refine zs_if_eq (pc := 41) 57 dM_codesWith_41 rfl (fun h9 => absurd h9 (by decide)) (fun _ => ?_)
        refine zs_aload_n (pc := 44) dM_codesWith_44 rfl ?_
        refine zs_iload (pc := 45) dM_codesWith_45 rfl ?_
        refine zcV1_1 (pc := 47) (d2 := d - 1) (s_M_holders hl (by omega) hI (by omega)) dM_codesWith_47 kM_166 mdM_holders miM_holders mvM_holders rfl (by exact z2_a) rfl (Nat.le_of_ble_eq_true rfl) (by omega) (by omega) (by omega) ?_
        refine zn_if_le (pc := 50) 57 dM_codesWith_50 rfl (by omega) (fun _ => ?_) (fun h9 => absurd h9 (by omega))
        refine zs_iconst (pc := 57) dM_codesWith_57 zi_0 ?_
        refine zn_iadd (pc := 58) dM_codesWith_58 ?_
        refine zs_istore_n (pc := 59) (ls2 := [_, _, _, _, _]) dM_codesWith_59 (Nat.le_of_ble_eq_true rfl) rfl ?_
        refine zn_iinc (pc := 60) (ls2 := [_, _, _, _, _]) dM_codesWith_60 rfl (Nat.le_of_ble_eq_true rfl) rfl ?_
        refine zs_goto (pc := 63) 25 dM_codesWith_63 rfl ?_
        exact hz
    | false =>
      rw [zcnt_f (p := fun c => zhas c dn v && decide (0 < zres g 3 c)) (n := j) (by show (zhas j dn v && decide (0 < zres g 3 j)) = false; rw [hp]; rfl)] at hz
      refine zs_if_eq (pc := 41) 57 dM_codesWith_41 rfl (fun _ => ?_) (fun h9 => absurd h9 (by decide))
      refine zs_iconst (pc := 57) dM_codesWith_57 zi_0 ?_
      refine zn_iadd (pc := 58) dM_codesWith_58 ?_
      refine zs_istore_n (pc := 59) (ls2 := [_, _, _, _, _]) dM_codesWith_59 (Nat.le_of_ble_eq_true rfl) rfl ?_
      refine zn_iinc (pc := 60) (ls2 := [_, _, _, _, _]) dM_codesWith_60 rfl (Nat.le_of_ble_eq_true rfl) rfl ?_
      refine zs_goto (pc := 63) 25 dM_codesWith_63 rfl ?_
      exact hz
theorem s_M_codesWith {Γ : zG} {l : Launch} (hl : l.stackTraces = false) {d : Nat} (hd : 5 ≤ d) {h : zH} {n a : Nat} {g : Nat → Nat} {s3 s5 s6 s7 s8 s10 s12 s16 s17 s18 s19 s20 : Int32} {B : Nat} (hI : IG B g) (y z : Int32) : zC Γ l d mM_codesWith [.ref a, .int y, .int z] (z2 h a (zAr 0 246 (g)) (zMo a s3 s5 s6 s7 s8 s10 s12 s16 s17 s18 s19 s20)) n 0 0 (zR (some (.int (aCods g y z).2)) (z2 h a (zAr 0 246 (g)) (zMo a s3 s5 s6 s7 (nI (aCods g y z).1) s10 s12 s16 s17 s18 s19 s20)) n) := by
  unfold aCods
  refine zC_of (ls := [some (.ref a), some (.int y), some (.int z), none, none]) hl (by decide +kernel) rfl (Nat.le_of_ble_eq_true rfl) rfl ?_
  cases hv : zPv y z with
  | true =>
    rw [if_pos rfl]
    have hv2 := zPv_y hv
    generalize y.toInt.toNat = dn at hv2 ⊢
    generalize z.toInt.toNat = v at hv2 ⊢
    have hv3 := hv2
    obtain ⟨rfl, rfl, q1, q2⟩ := hv3
    have h3 := z10 q1
    refine zs_aload_n (pc := 0) dM_codesWith_0 rfl ?_
    refine zs_iconst (pc := 1) dM_codesWith_1 zi_0 ?_
    refine zs_put (pc := 2) (fs2 := [_, _, _, _, _, _, _, _, _, _, _, _, _, _, _, _, _, _, _, _, _]) dM_codesWith_2 fM_45 (by first | exact z2_a | exact z2_1) (by rfl) (by rfl) (by exact Nat.le_of_ble_eq_true rfl) (by rfl) ?_
    rw [z2_O]
    refine zs_iload_n (pc := 5) dM_codesWith_5 rfl ?_
    refine zs_iload_n (pc := 6) dM_codesWith_6 rfl ?_
    refine zs_iconst (pc := 7) dM_codesWith_7 zi_3 ?_
    refine zcS1_3 (pc := 8) (d2 := d - 1) (s_M_isPrefix_y hl (by omega) hv2 q1 (by decide)) dM_codesWith_8 kM_143 mdM_isPrefix msM_isPrefix rfl (Nat.le_of_ble_eq_true rfl) (by omega) (by omega) (by omega) ?_
    refine zs_if_ne (pc := 11) 20 dM_codesWith_11 rfl (fun _ => ?_) (fun h9 => absurd h9 (by decide))
    refine zs_iconst (pc := 20) dM_codesWith_20 zi_0 ?_
    refine zs_istore_n (pc := 21) (ls2 := [_, _, _, _, _]) dM_codesWith_21 (Nat.le_of_ble_eq_true rfl) rfl ?_
    refine zs_iconst (pc := 22) dM_codesWith_22 zi_0 ?_
    refine zs_istore (pc := 23) (ls2 := [_, _, _, _, _]) dM_codesWith_23 (Nat.le_of_ble_eq_true rfl) rfl ?_
    refine lp_M_codesWith (s8 := s8) hl hd hI q1 (by omega) ?_ 1000 0 rfl
    refine zs_iload_n (pc := 66) dM_codesWith_66 rfl ?_
    exact zs_iret (pc := 67) dM_codesWith_67 rfl rfl (by omega) (by omega) (⟨rfl, rfl, rfl⟩)
  | false =>
    rw [if_neg (by decide)]
    have hv2 := zPv_n hv
    refine zs_aload_n (pc := 0) dM_codesWith_0 rfl ?_
    refine zs_iconst (pc := 1) dM_codesWith_1 zi_0 ?_
    refine zs_put (pc := 2) (fs2 := [_, _, _, _, _, _, _, _, _, _, _, _, _, _, _, _, _, _, _, _, _]) dM_codesWith_2 fM_45 (by first | exact z2_a | exact z2_1) (by rfl) (by rfl) (by exact Nat.le_of_ble_eq_true rfl) (by rfl) ?_
    rw [z2_O]
    refine zs_iload_n (pc := 5) dM_codesWith_5 rfl ?_
    refine zs_iload_n (pc := 6) dM_codesWith_6 rfl ?_
    refine zs_iconst (pc := 7) dM_codesWith_7 zi_3 ?_
    refine zcS1_3 (pc := 8) (d2 := d - 1) (s_M_isPrefix_n hl (by omega) (fun ⟨a1, a2, a3, _⟩ => hv2 ⟨a1, a2, a3⟩) (by decide)) dM_codesWith_8 kM_143 mdM_isPrefix msM_isPrefix rfl (Nat.le_of_ble_eq_true rfl) (by omega) (by omega) (by omega) ?_
    refine zs_if_ne (pc := 11) 20 dM_codesWith_11 rfl (fun h9 => absurd h9 (by decide)) (fun _ => ?_)
    refine zs_aload_n (pc := 14) dM_codesWith_14 rfl ?_
    refine zs_iconst (pc := 15) dM_codesWith_15 zi_1 ?_
    refine zcV1_1 (pc := 16) (d2 := d - 1) (s_M_throwing hl) dM_codesWith_16 kM_90 mdM_throwing miM_throwing mvM_throwing rfl (by exact z2_a) rfl (Nat.le_of_ble_eq_true rfl) (by omega) (by omega) (by omega) ?_
    exact zs_iret (pc := 19) dM_codesWith_19 rfl rfl (by omega) (by omega) (⟨rfl, rfl, rfl⟩)
theorem lp_M_nextDigits {Γ : zG} {l : Launch} (hl : l.stackTraces = false) {d : Nat} (hd : 5 ≤ d) {h : zH} {n a : Nat} {g : Nat → Nat} {s3 s5 s6 s7 s8 s10 s12 s16 s17 s18 s19 s20 : Int32} {B dn v : Nat} {FN : List Frame → Array Value → State → State → Prop} (hI : IG B g) (h1 : dn ≤ 2) (hv : v < 1000) (K : Z Γ l mM_nextDigits d 0 0 FN 63 [some (.ref a), some (.int (nI dn)), some (.int (nI v)), some (.int (nI (zbr g dn v))), some (.int (nI 10))] [] (z2 h a (zAr 0 246 (g)) (zMo a s3 s5 s6 s7 (nI 0) s10 s12 s16 s17 s18 s19 s20)) n 0 0) : ∀ i j, i + j = 10 → Z Γ l mM_nextDigits d 0 0 FN 25 [some (.ref a), some (.int (nI dn)), some (.int (nI v)), some (.int (nI (zcnt (fun k => decide (0 < zres g (dn + 1) (10 * v + k))) j))), some (.int (nI j))] [] (z2 h a (zAr 0 246 (g)) (zMo a s3 s5 s6 s7 (nI 0) s10 s12 s16 s17 s18 s19 s20)) n 0 0 := by
  have i0 := hI.1
  intro i
  induction i with
  | zero =>
    intro j hj
    obtain rfl : j = 10 := by omega
    refine zs_iload (pc := 25) dM_nextDigits_25 rfl ?_
    refine zs_bipush (pc := 27) dM_nextDigits_27 (zi_b 10 (by decide)) ?_
    refine zn_icmp_ge (pc := 29) 63 dM_nextDigits_29 rfl (by omega) (by omega) (fun _ => ?_) (fun h9 => absurd h9 (by omega))
    exact K
  | succ i ih =>
    intro j hj
    have hz := ih (j + 1) (by omega)
    have hr := zres_le (g := g) (dn := dn + 1) (v := 10 * v + j)
    by_cases e : 0 < zres g (dn + 1) (10 * v + j)
    · rw [zcnt_t (p := fun k => decide (0 < zres g (dn + 1) (10 * v + k))) (n := j) (decide_eq_true e)] at hz
      refine zs_iload (pc := 25) dM_nextDigits_25 rfl ?_
      refine zs_bipush (pc := 27) dM_nextDigits_27 (zi_b 10 (by decide)) ?_
      refine zn_icmp_ge (pc := 29) 63 dM_nextDigits_29 rfl (by omega) (by omega) (fun h9 => absurd h9 (by omega)) (fun _ => ?_)
      refine zs_iload_n (pc := 32) dM_nextDigits_32 rfl ?_
      refine zs_aload_n (pc := 33) dM_nextDigits_33 rfl ?_
      refine zs_iload_n (pc := 34) dM_nextDigits_34 rfl ?_
      refine zs_iconst (pc := 35) dM_nextDigits_35 zi_1 ?_
      refine zn_iadd (pc := 36) dM_nextDigits_36 ?_
      refine zs_bipush (pc := 37) dM_nextDigits_37 (zi_b 10 (by decide)) ?_
      refine zs_iload_n (pc := 39) dM_nextDigits_39 rfl ?_
      refine zn_imul (pc := 40) dM_nextDigits_40 ?_
      refine zs_iload (pc := 41) dM_nextDigits_41 rfl ?_
      refine zn_iadd (pc := 43) dM_nextDigits_43 ?_
      refine zcV1_2 (pc := 44) (d2 := d - 1) (s_M_results hl (by omega) hI (by omega) (by omega)) dM_nextDigits_44 kM_77 mdM_results miM_results mvM_results rfl (by exact z2_a) rfl (Nat.le_of_ble_eq_true rfl) (by omega) (by omega) (by omega) ?_
      refine zn_if_le (pc := 47) 54 dM_nextDigits_47 rfl (by omega) (fun h9 => absurd h9 (by omega)) (fun _ => ?_)
      refine zs_iconst (pc := 50) dM_nextDigits_50 zi_1 ?_
      refine zs_goto (pc := 51) 55 dM_nextDigits_51 rfl ?_
      refine zn_iadd (pc := 55) dM_nextDigits_55 ?_
      refine zs_istore_n (pc := 56) (ls2 := [_, _, _, _, _]) dM_nextDigits_56 (Nat.le_of_ble_eq_true rfl) rfl ?_
      refine zn_iinc (pc := 57) (ls2 := [_, _, _, _, _]) dM_nextDigits_57 rfl (Nat.le_of_ble_eq_true rfl) rfl ?_
      refine zs_goto (pc := 60) 25 dM_nextDigits_60 rfl ?_
      exact hz
    · rw [zcnt_f (p := fun k => decide (0 < zres g (dn + 1) (10 * v + k))) (n := j) (decide_eq_false e)] at hz
      refine zs_iload (pc := 25) dM_nextDigits_25 rfl ?_
      refine zs_bipush (pc := 27) dM_nextDigits_27 (zi_b 10 (by decide)) ?_
      refine zn_icmp_ge (pc := 29) 63 dM_nextDigits_29 rfl (by omega) (by omega) (fun h9 => absurd h9 (by omega)) (fun _ => ?_)
      refine zs_iload_n (pc := 32) dM_nextDigits_32 rfl ?_
      refine zs_aload_n (pc := 33) dM_nextDigits_33 rfl ?_
      refine zs_iload_n (pc := 34) dM_nextDigits_34 rfl ?_
      refine zs_iconst (pc := 35) dM_nextDigits_35 zi_1 ?_
      refine zn_iadd (pc := 36) dM_nextDigits_36 ?_
      refine zs_bipush (pc := 37) dM_nextDigits_37 (zi_b 10 (by decide)) ?_
      refine zs_iload_n (pc := 39) dM_nextDigits_39 rfl ?_
      refine zn_imul (pc := 40) dM_nextDigits_40 ?_
      refine zs_iload (pc := 41) dM_nextDigits_41 rfl ?_
      refine zn_iadd (pc := 43) dM_nextDigits_43 ?_
      refine zcV1_2 (pc := 44) (d2 := d - 1) (s_M_results hl (by omega) hI (by omega) (by omega)) dM_nextDigits_44 kM_77 mdM_results miM_results mvM_results rfl (by exact z2_a) rfl (Nat.le_of_ble_eq_true rfl) (by omega) (by omega) (by omega) ?_
      refine zn_if_le (pc := 47) 54 dM_nextDigits_47 rfl (by omega) (fun _ => ?_) (fun h9 => absurd h9 (by omega))
      refine zs_iconst (pc := 54) dM_nextDigits_54 zi_0 ?_
      refine zn_iadd (pc := 55) dM_nextDigits_55 ?_
      refine zs_istore_n (pc := 56) (ls2 := [_, _, _, _, _]) dM_nextDigits_56 (Nat.le_of_ble_eq_true rfl) rfl ?_
      refine zn_iinc (pc := 57) (ls2 := [_, _, _, _, _]) dM_nextDigits_57 rfl (Nat.le_of_ble_eq_true rfl) rfl ?_
      refine zs_goto (pc := 60) 25 dM_nextDigits_60 rfl ?_
      exact hz
theorem s_M_nextDigits {Γ : zG} {l : Launch} (hl : l.stackTraces = false) {d : Nat} (hd : 5 ≤ d) {h : zH} {n a : Nat} {g : Nat → Nat} {s3 s5 s6 s7 s8 s10 s12 s16 s17 s18 s19 s20 : Int32} {B : Nat} (hI : IG B g) (y z : Int32) : zC Γ l d mM_nextDigits [.ref a, .int y, .int z] (z2 h a (zAr 0 246 (g)) (zMo a s3 s5 s6 s7 s8 s10 s12 s16 s17 s18 s19 s20)) n 0 0 (zR (some (.int (aNext g y z).2)) (z2 h a (zAr 0 246 (g)) (zMo a s3 s5 s6 s7 (nI (aNext g y z).1) s10 s12 s16 s17 s18 s19 s20)) n) := by
  unfold aNext
  refine zC_of (ls := [some (.ref a), some (.int y), some (.int z), none, none]) hl (by decide +kernel) rfl (Nat.le_of_ble_eq_true rfl) rfl ?_
  by_cases e : zPv y z = true ∧ y.toInt.toNat < 3
  · rw [if_pos e]
    have hv2 := zPv_y e.1
    have e3 := e.2
    generalize y.toInt.toNat = dn at hv2 e3 ⊢
    generalize z.toInt.toNat = v at hv2 ⊢
    have hv3 := hv2
    obtain ⟨rfl, rfl, q1, q2⟩ := hv3
    have h3 := z10 q1
    refine zs_aload_n (pc := 0) dM_nextDigits_0 rfl ?_
    refine zs_iconst (pc := 1) dM_nextDigits_1 zi_0 ?_
    refine zs_put (pc := 2) (fs2 := [_, _, _, _, _, _, _, _, _, _, _, _, _, _, _, _, _, _, _, _, _]) dM_nextDigits_2 fM_45 (by first | exact z2_a | exact z2_1) (by rfl) (by rfl) (by exact Nat.le_of_ble_eq_true rfl) (by rfl) ?_
    rw [z2_O]
    refine zs_iload_n (pc := 5) dM_nextDigits_5 rfl ?_
    refine zs_iload_n (pc := 6) dM_nextDigits_6 rfl ?_
    refine zs_iconst (pc := 7) dM_nextDigits_7 zi_2 ?_
    refine zcS1_3 (pc := 8) (d2 := d - 1) (s_M_isPrefix_y hl (by omega) hv2 (by omega) (by decide)) dM_nextDigits_8 kM_143 mdM_isPrefix msM_isPrefix rfl (Nat.le_of_ble_eq_true rfl) (by omega) (by omega) (by omega) ?_
    refine zs_if_ne (pc := 11) 20 dM_nextDigits_11 rfl (fun _ => ?_) (fun h9 => absurd h9 (by decide))
    refine zs_iconst (pc := 20) dM_nextDigits_20 zi_0 ?_
    refine zs_istore_n (pc := 21) (ls2 := [_, _, _, _, _]) dM_nextDigits_21 (Nat.le_of_ble_eq_true rfl) rfl ?_
    refine zs_iconst (pc := 22) dM_nextDigits_22 zi_0 ?_
    refine zs_istore (pc := 23) (ls2 := [_, _, _, _, _]) dM_nextDigits_23 (Nat.le_of_ble_eq_true rfl) rfl ?_
    refine lp_M_nextDigits (s8 := s8) hl hd hI (by omega) (by omega) ?_ 10 0 rfl
    refine zs_iload_n (pc := 63) dM_nextDigits_63 rfl ?_
    exact zs_iret (pc := 64) dM_nextDigits_64 rfl rfl (by omega) (by omega) (⟨rfl, rfl, rfl⟩)
  · rw [if_neg e]
    have hn : ¬ ∃ dn v, zPf y z dn v ∧ dn ≤ 2 := fun ⟨dn, v, hp, hd2⟩ => e (by
      cases hv : zPv y z with
      | false => exact absurd ⟨dn, v, hp⟩ (zPv_n hv)
      | true =>
        obtain ⟨rfl, rfl, q1, q2⟩ := hp
        refine ⟨rfl, ?_⟩
        rw [nI_toInt (by omega)]
        omega)
    refine zs_aload_n (pc := 0) dM_nextDigits_0 rfl ?_
    refine zs_iconst (pc := 1) dM_nextDigits_1 zi_0 ?_
    refine zs_put (pc := 2) (fs2 := [_, _, _, _, _, _, _, _, _, _, _, _, _, _, _, _, _, _, _, _, _]) dM_nextDigits_2 fM_45 (by first | exact z2_a | exact z2_1) (by rfl) (by rfl) (by exact Nat.le_of_ble_eq_true rfl) (by rfl) ?_
    rw [z2_O]
    refine zs_iload_n (pc := 5) dM_nextDigits_5 rfl ?_
    refine zs_iload_n (pc := 6) dM_nextDigits_6 rfl ?_
    refine zs_iconst (pc := 7) dM_nextDigits_7 zi_2 ?_
    refine zcS1_3 (pc := 8) (d2 := d - 1) (s_M_isPrefix_n hl (by omega) hn (by decide)) dM_nextDigits_8 kM_143 mdM_isPrefix msM_isPrefix rfl (Nat.le_of_ble_eq_true rfl) (by omega) (by omega) (by omega) ?_
    refine zs_if_ne (pc := 11) 20 dM_nextDigits_11 rfl (fun h9 => absurd h9 (by decide)) (fun _ => ?_)
    refine zs_aload_n (pc := 14) dM_nextDigits_14 rfl ?_
    refine zs_iconst (pc := 15) dM_nextDigits_15 zi_1 ?_
    refine zcV1_1 (pc := 16) (d2 := d - 1) (s_M_throwing hl) dM_nextDigits_16 kM_90 mdM_throwing miM_throwing mvM_throwing rfl (by exact z2_a) rfl (Nat.le_of_ble_eq_true rfl) (by omega) (by omega) (by omega) ?_
    exact zs_iret (pc := 19) dM_nextDigits_19 rfl rfl (by omega) (by omega) (⟨rfl, rfl, rfl⟩)
theorem s_M_sharedDigits {Γ : zG} {l : Launch} (hl : l.stackTraces = false) {d : Nat} (hd : 5 ≤ d) {h : zH} {n a : Nat} {g : Nat → Nat} {s3 s5 s6 s7 s8 s10 s12 s16 s17 s18 s19 s20 : Int32} {B : Nat} (hI : IG B g) (y : Int32) : zC Γ l d mM_sharedDigits [.ref a, .int y] (z2 h a (zAr 0 246 (g)) (zMo a s3 s5 s6 s7 s8 s10 s12 s16 s17 s18 s19 s20)) n 0 0 (zR (some (.int (aDep g y).2)) (z2 h a (zAr 0 246 (g)) (zMo a s3 s5 s6 s7 (nI (aDep g y).1) s10 s12 s16 s17 s18 s19 s20)) n) := by
  have i0 := hI.1
  unfold aDep
  refine zC_of (ls := [some (.ref a), some (.int y), none]) hl (by decide +kernel) rfl (Nat.le_of_ble_eq_true rfl) rfl ?_
  cases hv : zV y 0 999 with
  | true =>
    rw [if_pos rfl]
    have hv9 := hv
    obtain ⟨v1, v2, v3⟩ := zV_y hv
    generalize y.toInt.toNat = w at v1 v2 v3 ⊢
    subst v3
    have r3 := zres_le (g := g) (dn := 3) (v := w)
    have r2 := zres_le (g := g) (dn := 2) (v := w / 10)
    have r1 := zres_le (g := g) (dn := 1) (v := w / 100)
    have p3 : w / 10 ^ (3 - 3) = w := by rw [Nat.sub_self, Nat.pow_zero, Nat.div_one]
    have p2 : w / 10 ^ (3 - 2) = w / 10 := rfl
    have p1 : w / 10 ^ (3 - 1) = w / 100 := rfl
    have o3 : 0 < 10 ^ (3 - 3) := by decide
    refine zs_aload_n (pc := 0) dM_sharedDigits_0 rfl ?_
    refine zs_iconst (pc := 1) dM_sharedDigits_1 zi_0 ?_
    refine zs_put (pc := 2) (fs2 := [_, _, _, _, _, _, _, _, _, _, _, _, _, _, _, _, _, _, _, _, _]) dM_sharedDigits_2 fM_45 (by first | exact z2_a | exact z2_1) (by rfl) (by rfl) (by exact Nat.le_of_ble_eq_true rfl) (by rfl) ?_
    rw [z2_O]
    refine zs_iload_n (pc := 5) dM_sharedDigits_5 rfl ?_
    refine zs_i2l (pc := 6) dM_sharedDigits_6 ?_
    refine zs_lconst (pc := 7) (v := 0) dM_sharedDigits_7 (by decide) ?_
    refine zs_ldc2 (pc := 8) (v := 999) dM_sharedDigits_8 (zt6 (i := 149) rfl) ?_
    refine zcS1_3 (pc := 11) (d2 := d - 1) (s_M_inV_y hl (by decide) (by decide) hv9) dM_sharedDigits_11 kM_55 mdM_in msM_in rfl (Nat.le_of_ble_eq_true rfl) (by omega) (by omega) (by omega) ?_
    refine zs_if_ne (pc := 14) 23 dM_sharedDigits_14 rfl (fun _ => ?_) (fun h9 => absurd h9 (by decide))
    refine zs_iconst (pc := 23) dM_sharedDigits_23 zi_3 ?_
    refine zs_istore_n (pc := 24) (ls2 := [_, _, _]) dM_sharedDigits_24 (Nat.le_of_ble_eq_true rfl) rfl ?_
    refine zs_iload_n (pc := 25) dM_sharedDigits_25 rfl ?_
    refine zn_if_le (pc := 26) 51 dM_sharedDigits_26 rfl (by omega) (fun h9 => absurd h9 (by decide)) (fun _ => ?_)
    refine zs_aload_n (pc := 29) dM_sharedDigits_29 rfl ?_
    refine zs_iload_n (pc := 30) dM_sharedDigits_30 rfl ?_
    refine zs_iload_n (pc := 31) dM_sharedDigits_31 rfl ?_
    refine zs_iconst (pc := 32) dM_sharedDigits_32 zi_3 ?_
    refine zs_iload_n (pc := 33) dM_sharedDigits_33 rfl ?_
    refine zn_isub (pc := 34) dM_sharedDigits_34 (by omega) ?_
    refine zcS1_1 (pc := 35) (d2 := d - 1) (s_M_power hl (by decide)) dM_sharedDigits_35 kM_59 mdM_power msM_power rfl (Nat.le_of_ble_eq_true rfl) (by omega) (by omega) (by omega) ?_
    refine zn_idiv (pc := 38) dM_sharedDigits_38 (by omega) (by omega) (by omega) ?_
    rw [p3]
    refine zcV1_2 (pc := 39) (d2 := d - 1) (s_M_results hl (by omega) hI (by decide) (by omega)) dM_sharedDigits_39 kM_77 mdM_results miM_results mvM_results rfl (by exact z2_a) rfl (Nat.le_of_ble_eq_true rfl) (by omega) (by omega) (by omega) ?_
    by_cases e3 : 0 < zres g 3 w
    · rw [show zdep g w = 3 by unfold zdep; rw [if_pos e3]]
      refine zn_if_ne (pc := 42) 51 dM_sharedDigits_42 rfl (by omega) (fun _ => ?_) (fun h9 => absurd h9 (by omega))
      refine zs_iload_n (pc := 51) dM_sharedDigits_51 rfl ?_
      exact zs_iret (pc := 52) dM_sharedDigits_52 rfl rfl (by omega) (by omega) (⟨rfl, rfl, rfl⟩)
    · refine zn_if_ne (pc := 42) 51 dM_sharedDigits_42 rfl (by omega) (fun h9 => absurd h9 (by omega)) (fun _ => ?_)
      refine zn_idec (pc := 45) (ls2 := [_, _, _]) dM_sharedDigits_45 rfl (Nat.le_of_ble_eq_true rfl) rfl ?_
      refine zs_goto (pc := 48) 25 dM_sharedDigits_48 rfl ?_
      refine zs_iload_n (pc := 25) dM_sharedDigits_25 rfl ?_
      refine zn_if_le (pc := 26) 51 dM_sharedDigits_26 rfl (by omega) (fun h9 => absurd h9 (by decide)) (fun _ => ?_)
      refine zs_aload_n (pc := 29) dM_sharedDigits_29 rfl ?_
      refine zs_iload_n (pc := 30) dM_sharedDigits_30 rfl ?_
      refine zs_iload_n (pc := 31) dM_sharedDigits_31 rfl ?_
      refine zs_iconst (pc := 32) dM_sharedDigits_32 zi_3 ?_
      refine zs_iload_n (pc := 33) dM_sharedDigits_33 rfl ?_
      refine zn_isub (pc := 34) dM_sharedDigits_34 (by omega) ?_
      refine zcS1_1 (pc := 35) (d2 := d - 1) (s_M_power hl (by decide)) dM_sharedDigits_35 kM_59 mdM_power msM_power rfl (Nat.le_of_ble_eq_true rfl) (by omega) (by omega) (by omega) ?_
      refine zn_idiv (pc := 38) dM_sharedDigits_38 (by omega) (by omega) (by omega) ?_
      rw [p2]
      refine zcV1_2 (pc := 39) (d2 := d - 1) (s_M_results hl (by omega) hI (by decide) (by omega)) dM_sharedDigits_39 kM_77 mdM_results miM_results mvM_results rfl (by exact z2_a) rfl (Nat.le_of_ble_eq_true rfl) (by omega) (by omega) (by omega) ?_
      by_cases e2 : 0 < zres g 2 (w / 10)
      · rw [show zdep g w = 2 by unfold zdep; rw [if_neg e3, if_pos e2]]
        refine zn_if_ne (pc := 42) 51 dM_sharedDigits_42 rfl (by omega) (fun _ => ?_) (fun h9 => absurd h9 (by omega))
        refine zs_iload_n (pc := 51) dM_sharedDigits_51 rfl ?_
        exact zs_iret (pc := 52) dM_sharedDigits_52 rfl rfl (by omega) (by omega) (⟨rfl, rfl, rfl⟩)
      · refine zn_if_ne (pc := 42) 51 dM_sharedDigits_42 rfl (by omega) (fun h9 => absurd h9 (by omega)) (fun _ => ?_)
        refine zn_idec (pc := 45) (ls2 := [_, _, _]) dM_sharedDigits_45 rfl (Nat.le_of_ble_eq_true rfl) rfl ?_
        refine zs_goto (pc := 48) 25 dM_sharedDigits_48 rfl ?_
        refine zs_iload_n (pc := 25) dM_sharedDigits_25 rfl ?_
        refine zn_if_le (pc := 26) 51 dM_sharedDigits_26 rfl (by omega) (fun h9 => absurd h9 (by decide)) (fun _ => ?_)
        refine zs_aload_n (pc := 29) dM_sharedDigits_29 rfl ?_
        refine zs_iload_n (pc := 30) dM_sharedDigits_30 rfl ?_
        refine zs_iload_n (pc := 31) dM_sharedDigits_31 rfl ?_
        refine zs_iconst (pc := 32) dM_sharedDigits_32 zi_3 ?_
        refine zs_iload_n (pc := 33) dM_sharedDigits_33 rfl ?_
        refine zn_isub (pc := 34) dM_sharedDigits_34 (by omega) ?_
        refine zcS1_1 (pc := 35) (d2 := d - 1) (s_M_power hl (by decide)) dM_sharedDigits_35 kM_59 mdM_power msM_power rfl (Nat.le_of_ble_eq_true rfl) (by omega) (by omega) (by omega) ?_
        refine zn_idiv (pc := 38) dM_sharedDigits_38 (by omega) (by omega) (by omega) ?_
        rw [p1]
        refine zcV1_2 (pc := 39) (d2 := d - 1) (s_M_results hl (by omega) hI (by decide) (by omega)) dM_sharedDigits_39 kM_77 mdM_results miM_results mvM_results rfl (by exact z2_a) rfl (Nat.le_of_ble_eq_true rfl) (by omega) (by omega) (by omega) ?_
        by_cases e1 : 0 < zres g 1 (w / 100)
        · rw [show zdep g w = 1 by unfold zdep; rw [if_neg e3, if_neg e2, if_pos e1]]
          refine zn_if_ne (pc := 42) 51 dM_sharedDigits_42 rfl (by omega) (fun _ => ?_) (fun h9 => absurd h9 (by omega))
          refine zs_iload_n (pc := 51) dM_sharedDigits_51 rfl ?_
          exact zs_iret (pc := 52) dM_sharedDigits_52 rfl rfl (by omega) (by omega) (⟨rfl, rfl, rfl⟩)
        · rw [show zdep g w = 0 by unfold zdep; rw [if_neg e3, if_neg e2, if_neg e1]]
          refine zn_if_ne (pc := 42) 51 dM_sharedDigits_42 rfl (by omega) (fun h9 => absurd h9 (by omega)) (fun _ => ?_)
          refine zn_idec (pc := 45) (ls2 := [_, _, _]) dM_sharedDigits_45 rfl (Nat.le_of_ble_eq_true rfl) rfl ?_
          refine zs_goto (pc := 48) 25 dM_sharedDigits_48 rfl ?_
          refine zs_iload_n (pc := 25) dM_sharedDigits_25 rfl ?_
          refine zn_if_le (pc := 26) 51 dM_sharedDigits_26 rfl (by omega) (fun _ => ?_) (fun h9 => absurd h9 (by decide))
          refine zs_iload_n (pc := 51) dM_sharedDigits_51 rfl ?_
          exact zs_iret (pc := 52) dM_sharedDigits_52 rfl rfl (by omega) (by omega) (⟨rfl, rfl, rfl⟩)
  | false =>
    rw [if_neg (by decide)]
    refine zs_aload_n (pc := 0) dM_sharedDigits_0 rfl ?_
    refine zs_iconst (pc := 1) dM_sharedDigits_1 zi_0 ?_
    refine zs_put (pc := 2) (fs2 := [_, _, _, _, _, _, _, _, _, _, _, _, _, _, _, _, _, _, _, _, _]) dM_sharedDigits_2 fM_45 (by first | exact z2_a | exact z2_1) (by rfl) (by rfl) (by exact Nat.le_of_ble_eq_true rfl) (by rfl) ?_
    rw [z2_O]
    refine zs_iload_n (pc := 5) dM_sharedDigits_5 rfl ?_
    refine zs_i2l (pc := 6) dM_sharedDigits_6 ?_
    refine zs_lconst (pc := 7) (v := 0) dM_sharedDigits_7 (by decide) ?_
    refine zs_ldc2 (pc := 8) (v := 999) dM_sharedDigits_8 (zt6 (i := 149) rfl) ?_
    refine zcS1_3 (pc := 11) (d2 := d - 1) (s_M_inV_n hl (by decide) (by decide) hv) dM_sharedDigits_11 kM_55 mdM_in msM_in rfl (Nat.le_of_ble_eq_true rfl) (by omega) (by omega) (by omega) ?_
    refine zs_if_ne (pc := 14) 23 dM_sharedDigits_14 rfl (fun h9 => absurd h9 (by decide)) (fun _ => ?_)
    refine zs_aload_n (pc := 17) dM_sharedDigits_17 rfl ?_
    refine zs_iconst (pc := 18) dM_sharedDigits_18 zi_1 ?_
    refine zcV1_1 (pc := 19) (d2 := d - 1) (s_M_throwing hl) dM_sharedDigits_19 kM_90 mdM_throwing miM_throwing mvM_throwing rfl (by exact z2_a) rfl (Nat.le_of_ble_eq_true rfl) (by omega) (by omega) (by omega) ?_
    exact zs_iret (pc := 22) dM_sharedDigits_22 rfl rfl (by omega) (by omega) (⟨rfl, rfl, rfl⟩)
theorem s_M_sharedDigitsByScan {Γ : zG} {l : Launch} (hl : l.stackTraces = false) {d : Nat} (hd : 6 ≤ d) {h : zH} {n a : Nat} {g : Nat → Nat} {s3 s5 s6 s7 s8 s10 s12 s16 s17 s18 s19 s20 : Int32} {B : Nat} (hI : IG B g) (y : Int32) : zC Γ l d mM_sharedDigitsByScan [.ref a, .int y] (z2 h a (zAr 0 246 (g)) (zMo a s3 s5 s6 s7 s8 s10 s12 s16 s17 s18 s19 s20)) n 0 0 (zR (some (.int (aDep g y).2)) (z2 h a (zAr 0 246 (g)) (zMo a s3 s5 s6 s7 (nI (aDep g y).1) s10 s12 s16 s17 s18 s19 s20)) n) := by
  refine zC_of (ls := [some (.ref a), some (.int y)]) hl (by decide +kernel) rfl (Nat.le_of_ble_eq_true rfl) rfl ?_
  refine zs_aload_n (pc := 0) dM_sharedDigitsByScan_0 rfl ?_
  refine zs_iload_n (pc := 1) dM_sharedDigitsByScan_1 rfl ?_
  refine zcV1_1 (pc := 2) (d2 := d - 1) (s_M_sharedDigits hl (by omega) hI y) dM_sharedDigitsByScan_2 kM_169 mdM_sharedDigits miM_sharedDigits mvM_sharedDigits rfl (by exact z2_a) rfl (Nat.le_of_ble_eq_true rfl) (by omega) (by omega) (by omega) ?_
  exact zs_iret (pc := 5) dM_sharedDigitsByScan_5 rfl rfl (by omega) (by omega) (⟨rfl, rfl, rfl⟩)
theorem lp_M_codeAfter {Γ : zG} {l : Launch} (hl : l.stackTraces = false) {d : Nat} (hd : 5 ≤ d) {h : zH} {n a : Nat} {g : Nat → Nat} {s3 s5 s6 s7 s8 s10 s12 s16 s17 s18 s19 s20 : Int32} {B c1 t : Nat} {y : Int32} {FN : List Frame → Array Value → State → State → Prop} (hI : IG B g) (ht : c1 ≤ t) (ht2 : t ≤ 1000) (hno : ∀ c, c1 ≤ c → c < t → ¬ 0 < zres g 3 c) (K : Z Γ l mM_codeAfter d 0 0 FN 29 [some (.ref a), some (.int y), some (.int (nI t))] [] (z2 h a (zAr 0 246 (g)) (zMo a s3 s5 s6 s7 (nI 0) s10 s12 s16 s17 s18 s19 s20)) n 0 0) : ∀ i j, i + j = t → c1 ≤ j → Z Γ l mM_codeAfter d 0 0 FN 29 [some (.ref a), some (.int y), some (.int (nI j))] [] (z2 h a (zAr 0 246 (g)) (zMo a s3 s5 s6 s7 (nI 0) s10 s12 s16 s17 s18 s19 s20)) n 0 0 := by
  have i0 := hI.1
  intro i
  induction i with
  | zero =>
    intro j hj hc
    obtain rfl : j = t := by omega
    exact K
  | succ i ih =>
    intro j hj hc
    have hz := ih (j + 1) (by omega) (by omega)
    have hr := zres_le (g := g) (dn := 3) (v := j)
    have hn := hno j hc (by omega)
    refine zs_iload_n (pc := 29) dM_codeAfter_29 rfl ?_
    refine zs_sipush (pc := 30) dM_codeAfter_30 (zi_s 1000 (by decide)) ?_
    refine zn_icmp_ge (pc := 33) 52 dM_codeAfter_33 rfl (by omega) (by omega) (fun h9 => absurd h9 (by omega)) (fun _ => ?_)
    refine zs_aload_n (pc := 36) dM_codeAfter_36 rfl ?_
    refine zs_iload_n (pc := 37) dM_codeAfter_37 rfl ?_
    refine zcV1_1 (pc := 38) (d2 := d - 1) (s_M_holders hl (by omega) hI (by omega)) dM_codeAfter_38 kM_166 mdM_holders miM_holders mvM_holders rfl (by exact z2_a) rfl (Nat.le_of_ble_eq_true rfl) (by omega) (by omega) (by omega) ?_
    refine zn_if_le (pc := 41) 46 dM_codeAfter_41 rfl (by omega) (fun _ => ?_) (fun h9 => absurd h9 (by omega))
    refine zn_iinc (pc := 46) (ls2 := [_, _, _]) dM_codeAfter_46 rfl (Nat.le_of_ble_eq_true rfl) rfl ?_
    refine zs_goto (pc := 49) 29 dM_codeAfter_49 rfl ?_
    exact hz
theorem s_M_codeAfter {Γ : zG} {l : Launch} (hl : l.stackTraces = false) {d : Nat} (hd : 5 ≤ d) {h : zH} {n a : Nat} {g : Nat → Nat} {s3 s5 s6 s7 s8 s10 s12 s16 s17 s18 s19 s20 : Int32} {B : Nat} (hI : IG B g) (y : Int32) : zC Γ l d mM_codeAfter [.ref a, .int y] (z2 h a (zAr 0 246 (g)) (zMo a s3 s5 s6 s7 s8 s10 s12 s16 s17 s18 s19 s20)) n 0 0 (zR (some (.int (aAft g y).2)) (z2 h a (zAr 0 246 (g)) (zMo a s3 s5 s6 s7 (nI (aAft g y).1) s10 s12 s16 s17 s18 s19 s20)) n) := by
  have i0 := hI.1
  unfold aAft
  refine zC_of (ls := [some (.ref a), some (.int y), none]) hl (by decide +kernel) rfl (Nat.le_of_ble_eq_true rfl) rfl ?_
  have hin : ∀ (h9 : zH) (n9 : Nat), zC Γ l (d - 1) mM_in [.long y.toInt64, .long (-1), .long 999] h9 n9 0 0 (zR (some (.int (nI (zb (zVm y))))) h9 n9) := fun h9 n9 => s_M_inI hl (a := -1) (b := 999) (by decide) (by decide)
  cases hv : zVm y with
  | false =>
    rw [hv] at hin
    rw [if_neg (by decide)]
    refine zs_aload_n (pc := 0) dM_codeAfter_0 rfl ?_
    refine zs_iconst (pc := 1) dM_codeAfter_1 zi_0 ?_
    refine zs_put (pc := 2) (fs2 := [_, _, _, _, _, _, _, _, _, _, _, _, _, _, _, _, _, _, _, _, _]) dM_codeAfter_2 fM_45 (by first | exact z2_a | exact z2_1) (by rfl) (by rfl) (by exact Nat.le_of_ble_eq_true rfl) (by rfl) ?_
    rw [z2_O]
    refine zs_iload_n (pc := 5) dM_codeAfter_5 rfl ?_
    refine zs_i2l (pc := 6) dM_codeAfter_6 ?_
    refine zs_ldc2 (pc := 7) (v := -1) dM_codeAfter_7 (zt7 (i := 128) rfl) ?_
    refine zs_ldc2 (pc := 10) (v := 999) dM_codeAfter_10 (zt6 (i := 149) rfl) ?_
    refine zcS1_3 (pc := 13) (d2 := d - 1) (hin _ _) dM_codeAfter_13 kM_55 mdM_in msM_in rfl (Nat.le_of_ble_eq_true rfl) (by omega) (by omega) (by omega) ?_
    refine zs_if_ne (pc := 16) 25 dM_codeAfter_16 rfl (fun h9 => absurd h9 (fun q => q rfl)) (fun _ => ?_)
    refine zs_aload_n (pc := 19) dM_codeAfter_19 rfl ?_
    refine zs_iconst (pc := 20) dM_codeAfter_20 zi_1 ?_
    refine zcV1_1 (pc := 21) (d2 := d - 1) (s_M_throwing hl) dM_codeAfter_21 kM_90 mdM_throwing miM_throwing mvM_throwing rfl (by exact z2_a) rfl (Nat.le_of_ble_eq_true rfl) (by omega) (by omega) (by omega) ?_
    exact zs_iret (pc := 24) dM_codeAfter_24 rfl rfl (by omega) (by omega) (⟨rfl, rfl, rfl⟩)
  | true =>
    rw [hv] at hin
    rw [if_pos rfl]
    obtain ⟨v1, v2⟩ := of_decide_eq_true hv
    have e1 : y + nI 1 = nI (y.toInt + 1).toNat := by
      apply Int32.toInt_inj.mp
      rw [nI_toInt (by omega), Int32.toInt_add]
      have : (nI 1).toInt = 1 := by decide
      rw [this, Int.bmod_eq_of_le] <;> omega
    have hc1 : (y.toInt + 1).toNat ≤ 1000 := by omega
    generalize (y.toInt + 1).toNat = c1 at e1 hc1 ⊢
    have hin2 := hin
    refine zs_aload_n (pc := 0) dM_codeAfter_0 rfl ?_
    refine zs_iconst (pc := 1) dM_codeAfter_1 zi_0 ?_
    refine zs_put (pc := 2) (fs2 := [_, _, _, _, _, _, _, _, _, _, _, _, _, _, _, _, _, _, _, _, _]) dM_codeAfter_2 fM_45 (by first | exact z2_a | exact z2_1) (by rfl) (by rfl) (by exact Nat.le_of_ble_eq_true rfl) (by rfl) ?_
    rw [z2_O]
    refine zs_iload_n (pc := 5) dM_codeAfter_5 rfl ?_
    refine zs_i2l (pc := 6) dM_codeAfter_6 ?_
    refine zs_ldc2 (pc := 7) (v := -1) dM_codeAfter_7 (zt7 (i := 128) rfl) ?_
    refine zs_ldc2 (pc := 10) (v := 999) dM_codeAfter_10 (zt6 (i := 149) rfl) ?_
    refine zcS1_3 (pc := 13) (d2 := d - 1) (hin _ _) dM_codeAfter_13 kM_55 mdM_in msM_in rfl (Nat.le_of_ble_eq_true rfl) (by omega) (by omega) (by omega) ?_
    refine zs_if_ne (pc := 16) 25 dM_codeAfter_16 rfl (fun _ => ?_) (fun h9 => absurd h9 (by decide))
    refine zs_iload_n (pc := 25) dM_codeAfter_25 rfl ?_
    refine zs_iconst (pc := 26) dM_codeAfter_26 zi_1 ?_
    refine zs_iadd (pc := 27) dM_codeAfter_27 ?_
    rw [e1]
    refine zs_istore_n (pc := 28) (ls2 := [_, _, _]) dM_codeAfter_28 (Nat.le_of_ble_eq_true rfl) rfl ?_
    by_cases e : zany (fun j => decide (0 < zres g 3 (c1 + j))) (1000 - c1) = true
    · obtain ⟨f1, f2, f3⟩ := zfst_y (p := fun j => decide (0 < zres g 3 (c1 + j))) (1000 - c1) e
      have ez : zAf g c1 = c1 + zfst (fun j => decide (0 < zres g 3 (c1 + j))) (1000 - c1) := rfl
      rw [if_neg (by omega), ez]
      generalize zfst (fun j => decide (0 < zres g 3 (c1 + j))) (1000 - c1) = r at f1 f2 f3 ⊢
      have f2 : 0 < zres g 3 (c1 + r) := of_decide_eq_true f2
      have hr := zres_le (g := g) (dn := 3) (v := c1 + r)
      refine lp_M_codeAfter (s8 := s8) (t := c1 + r) hl hd hI (Nat.le_add_right _ _) (by omega) (fun c a1 a2 q => ?_) ?_ r c1 (by omega) (Nat.le_refl _)
      · have a3 := f3 (c - c1) (by omega)
        rw [show c1 + (c - c1) = c by omega, decide_eq_true q] at a3
        cases a3
      · refine zs_iload_n (pc := 29) dM_codeAfter_29 rfl ?_
        refine zs_sipush (pc := 30) dM_codeAfter_30 (zi_s 1000 (by decide)) ?_
        refine zn_icmp_ge (pc := 33) 52 dM_codeAfter_33 rfl (by omega) (by omega) (fun h9 => absurd h9 (by omega)) (fun _ => ?_)
        refine zs_aload_n (pc := 36) dM_codeAfter_36 rfl ?_
        refine zs_iload_n (pc := 37) dM_codeAfter_37 rfl ?_
        refine zcV1_1 (pc := 38) (d2 := d - 1) (s_M_holders hl (by omega) hI (by omega)) dM_codeAfter_38 kM_166 mdM_holders miM_holders mvM_holders rfl (by exact z2_a) rfl (Nat.le_of_ble_eq_true rfl) (by omega) (by omega) (by omega) ?_
        refine zn_if_le (pc := 41) 46 dM_codeAfter_41 rfl (by omega) (fun h9 => absurd h9 (by omega)) (fun _ => ?_)
        refine zs_iload_n (pc := 44) dM_codeAfter_44 rfl ?_
        exact zs_iret (pc := 45) dM_codeAfter_45 rfl rfl (by omega) (by omega) (⟨rfl, rfl, rfl⟩)
    · have e0 : zany (fun j => decide (0 < zres g 3 (c1 + j))) (1000 - c1) = false := by simpa using e
      have ez : zAf g c1 = 1000 := by
        unfold zAf
        rw [zfst_n _ e0]
        omega
      rw [if_pos ez]
      refine lp_M_codeAfter (s8 := s8) (t := 1000) hl hd hI hc1 (Nat.le_refl _) (fun c a1 a2 q => ?_) ?_ (1000 - c1) c1 (by omega) (Nat.le_refl _)
      · have a3 := zany_no.mp e0 (c - c1) (by omega)
        rw [show c1 + (c - c1) = c by omega, decide_eq_true q] at a3
        cases a3
      · refine zs_iload_n (pc := 29) dM_codeAfter_29 rfl ?_
        refine zs_sipush (pc := 30) dM_codeAfter_30 (zi_s 1000 (by decide)) ?_
        refine zn_icmp_ge (pc := 33) 52 dM_codeAfter_33 rfl (by omega) (by omega) (fun _ => ?_) (fun h9 => absurd h9 (by omega))
        refine zs_aload_n (pc := 52) dM_codeAfter_52 rfl ?_
        refine zs_iconst (pc := 53) dM_codeAfter_53 zi_2 ?_
        refine zcV1_1 (pc := 54) (d2 := d - 1) (s_M_throwing hl) dM_codeAfter_54 kM_90 mdM_throwing miM_throwing mvM_throwing rfl (by exact z2_a) rfl (Nat.le_of_ble_eq_true rfl) (by omega) (by omega) (by omega) ?_
        exact zs_iret (pc := 57) dM_codeAfter_57 rfl rfl (by omega) (by omega) (⟨rfl, rfl, rfl⟩)
theorem lp_M_commonestCode {Γ : zG} {l : Launch} (hl : l.stackTraces = false) {d : Nat} (hd : 5 ≤ d) {h : zH} {n a : Nat} {g : Nat → Nat} {s3 s5 s6 s7 s8 s10 s12 s16 s17 s18 s19 s20 : Int32} {B : Nat} {FN : List Frame → Array Value → State → State → Prop} (hI : IG B g) (K : ∀ x4, Z Γ l mM_commonestCode d 0 0 FN 50 [some (.ref a), some (.int (nI (zcmF (fun c => zres g 3 c) 1000).1)), some (.int (zpre (zcmF (fun c => zres g 3 c) 1000).2)), some (.int (nI 1000)), x4] [] (z2 h a (zAr 0 246 (g)) (zMo a s3 s5 s6 s7 (nI 0) s10 s12 s16 s17 s18 s19 s20)) n 0 0) : ∀ i j, i + j = 1000 → ∀ x4, Z Γ l mM_commonestCode d 0 0 FN 11 [some (.ref a), some (.int (nI (zcmF (fun c => zres g 3 c) j).1)), some (.int (zpre (zcmF (fun c => zres g 3 c) j).2)), some (.int (nI j)), x4] [] (z2 h a (zAr 0 246 (g)) (zMo a s3 s5 s6 s7 (nI 0) s10 s12 s16 s17 s18 s19 s20)) n 0 0 := by
  have i0 := hI.1
  intro i
  induction i with
  | zero =>
    intro j hj x4
    obtain rfl : j = 1000 := by omega
    refine zs_iload_n (pc := 11) dM_commonestCode_11 rfl ?_
    refine zs_sipush (pc := 12) dM_commonestCode_12 (zi_s 1000 (by decide)) ?_
    refine zn_icmp_ge (pc := 15) 50 dM_commonestCode_15 rfl (by omega) (by omega) (fun _ => ?_) (fun h9 => absurd h9 (by omega))
    exact K _
  | succ i ih =>
    intro j hj x4
    have hz := ih (j + 1) (by omega)
    have h1 := (zcmF_le (f := fun c => zres g 3 c) (B := 20) j (fun i _ => Nat.le_trans zres_le i0)).1
    have hr := zres_le (g := g) (dn := 3) (v := j)
    by_cases e : (zcmF (fun c => zres g 3 c) j).1 < zres g 3 j
    · have e2 : zcmF (fun c => zres g 3 c) (j + 1) = (zres g 3 j, j + 1) := if_pos e
      rw [e2] at hz
      refine zs_iload_n (pc := 11) dM_commonestCode_11 rfl ?_
      refine zs_sipush (pc := 12) dM_commonestCode_12 (zi_s 1000 (by decide)) ?_
      refine zn_icmp_ge (pc := 15) 50 dM_commonestCode_15 rfl (by omega) (by omega) (fun h9 => absurd h9 (by omega)) (fun _ => ?_)
      refine zs_aload_n (pc := 18) dM_commonestCode_18 rfl ?_
      refine zs_iload_n (pc := 19) dM_commonestCode_19 rfl ?_
      refine zcV1_1 (pc := 20) (d2 := d - 1) (s_M_holders hl (by omega) hI (by omega)) dM_commonestCode_20 kM_166 mdM_holders miM_holders mvM_holders rfl (by exact z2_a) rfl (Nat.le_of_ble_eq_true rfl) (by omega) (by omega) (by omega) ?_
      refine zs_istore (pc := 23) (ls2 := [_, _, _, _, _]) dM_commonestCode_23 (Nat.le_of_ble_eq_true rfl) rfl ?_
      refine zs_iload (pc := 25) dM_commonestCode_25 rfl ?_
      refine zs_iload_n (pc := 27) dM_commonestCode_27 rfl ?_
      refine zn_icmp_le (pc := 28) 35 dM_commonestCode_28 rfl (by omega) (by omega) (fun h9 => absurd h9 (by omega)) (fun _ => ?_)
      refine zs_iload_n (pc := 31) dM_commonestCode_31 rfl ?_
      refine zs_goto (pc := 32) 36 dM_commonestCode_32 rfl ?_
      refine zs_istore_n (pc := 36) (ls2 := [_, _, _, _, _]) dM_commonestCode_36 (Nat.le_of_ble_eq_true rfl) rfl ?_
      refine zs_iload_n (pc := 37) dM_commonestCode_37 rfl ?_
      refine zs_iload (pc := 38) dM_commonestCode_38 rfl ?_
      refine zn_mmax (pc := 40) dM_commonestCode_40 kM_130 (Nat.le_of_ble_eq_true rfl) (by omega) (by omega) (by omega) (by omega) ?_
      rw [Nat.max_eq_right (Nat.le_of_lt e)]
      refine zs_istore_n (pc := 43) (ls2 := [_, _, _, _, _]) dM_commonestCode_43 (Nat.le_of_ble_eq_true rfl) rfl ?_
      refine zn_iinc (pc := 44) (ls2 := [_, _, _, _, _]) dM_commonestCode_44 rfl (Nat.le_of_ble_eq_true rfl) rfl ?_
      refine zs_goto (pc := 47) 11 dM_commonestCode_47 rfl ?_
      exact hz _
    · have e2 : zcmF (fun c => zres g 3 c) (j + 1) = zcmF (fun c => zres g 3 c) j := if_neg e
      rw [e2] at hz
      refine zs_iload_n (pc := 11) dM_commonestCode_11 rfl ?_
      refine zs_sipush (pc := 12) dM_commonestCode_12 (zi_s 1000 (by decide)) ?_
      refine zn_icmp_ge (pc := 15) 50 dM_commonestCode_15 rfl (by omega) (by omega) (fun h9 => absurd h9 (by omega)) (fun _ => ?_)
      refine zs_aload_n (pc := 18) dM_commonestCode_18 rfl ?_
      refine zs_iload_n (pc := 19) dM_commonestCode_19 rfl ?_
      refine zcV1_1 (pc := 20) (d2 := d - 1) (s_M_holders hl (by omega) hI (by omega)) dM_commonestCode_20 kM_166 mdM_holders miM_holders mvM_holders rfl (by exact z2_a) rfl (Nat.le_of_ble_eq_true rfl) (by omega) (by omega) (by omega) ?_
      refine zs_istore (pc := 23) (ls2 := [_, _, _, _, _]) dM_commonestCode_23 (Nat.le_of_ble_eq_true rfl) rfl ?_
      refine zs_iload (pc := 25) dM_commonestCode_25 rfl ?_
      refine zs_iload_n (pc := 27) dM_commonestCode_27 rfl ?_
      refine zn_icmp_le (pc := 28) 35 dM_commonestCode_28 rfl (by omega) (by omega) (fun _ => ?_) (fun h9 => absurd h9 (by omega))
      refine zs_iload_n (pc := 35) dM_commonestCode_35 rfl ?_
      refine zs_istore_n (pc := 36) (ls2 := [_, _, _, _, _]) dM_commonestCode_36 (Nat.le_of_ble_eq_true rfl) rfl ?_
      refine zs_iload_n (pc := 37) dM_commonestCode_37 rfl ?_
      refine zs_iload (pc := 38) dM_commonestCode_38 rfl ?_
      refine zn_mmax (pc := 40) dM_commonestCode_40 kM_130 (Nat.le_of_ble_eq_true rfl) (by omega) (by omega) (by omega) (by omega) ?_
      rw [Nat.max_eq_left (Nat.not_lt.mp e)]
      refine zs_istore_n (pc := 43) (ls2 := [_, _, _, _, _]) dM_commonestCode_43 (Nat.le_of_ble_eq_true rfl) rfl ?_
      refine zn_iinc (pc := 44) (ls2 := [_, _, _, _, _]) dM_commonestCode_44 rfl (Nat.le_of_ble_eq_true rfl) rfl ?_
      refine zs_goto (pc := 47) 11 dM_commonestCode_47 rfl ?_
      exact hz _
theorem s_M_commonestCode {Γ : zG} {l : Launch} (hl : l.stackTraces = false) {d : Nat} (hd : 5 ≤ d) {h : zH} {n a : Nat} {g : Nat → Nat} {s3 s5 s6 s7 s8 s10 s12 s16 s17 s18 s19 s20 : Int32} {B : Nat} (hI : IG B g) : zC Γ l d mM_commonestCode [.ref a] (z2 h a (zAr 0 246 (g)) (zMo a s3 s5 s6 s7 s8 s10 s12 s16 s17 s18 s19 s20)) n 0 0 (zR (some (.int (aCom g).2)) (z2 h a (zAr 0 246 (g)) (zMo a s3 s5 s6 s7 (nI (aCom g).1) s10 s12 s16 s17 s18 s19 s20)) n) := by
  have i0 := hI.1
  have hc2 := (zcmF_le (f := fun c => zres g 3 c) (B := 20) 1000 (fun i _ => Nat.le_trans zres_le i0)).2
  unfold aCom
  refine zC_of (ls := [some (.ref a), none, none, none, none]) hl (by decide +kernel) rfl (Nat.le_of_ble_eq_true rfl) rfl ?_
  refine zs_aload_n (pc := 0) dM_commonestCode_0 rfl ?_
  refine zs_iconst (pc := 1) dM_commonestCode_1 zi_0 ?_
  refine zs_put (pc := 2) (fs2 := [_, _, _, _, _, _, _, _, _, _, _, _, _, _, _, _, _, _, _, _, _]) dM_commonestCode_2 fM_45 (by first | exact z2_a | exact z2_1) (by rfl) (by rfl) (by exact Nat.le_of_ble_eq_true rfl) (by rfl) ?_
  rw [z2_O]
  refine zs_iconst (pc := 5) dM_commonestCode_5 zi_0 ?_
  refine zs_istore_n (pc := 6) (ls2 := [_, _, _, _, _]) dM_commonestCode_6 (Nat.le_of_ble_eq_true rfl) rfl ?_
  refine zs_iconst (pc := 7) dM_commonestCode_7 zi_m1 ?_
  refine zs_istore_n (pc := 8) (ls2 := [_, _, _, _, _]) dM_commonestCode_8 (Nat.le_of_ble_eq_true rfl) rfl ?_
  refine zs_iconst (pc := 9) dM_commonestCode_9 zi_0 ?_
  refine zs_istore_n (pc := 10) (ls2 := [_, _, _, _, _]) dM_commonestCode_10 (Nat.le_of_ble_eq_true rfl) rfl ?_
  refine lp_M_commonestCode (s8 := s8) hl hd hI (fun x4 => ?_) 1000 0 rfl _
  generalize (zcmF (fun c => zres g 3 c) 1000).2 = r at hc2 ⊢
  by_cases e : r = 0
  · have ep : zpre r = -1 := if_pos e
    rw [if_pos e, ep]
    refine zs_iload_n (pc := 50) dM_commonestCode_50 rfl ?_
    refine zs_iconst (pc := 51) dM_commonestCode_51 zi_m1 ?_
    refine zs_icmp_ne (pc := 52) 63 dM_commonestCode_52 rfl (fun h9 => absurd h9 (fun q => q rfl)) (fun _ => ?_)
    refine zs_aload_n (pc := 55) dM_commonestCode_55 rfl ?_
    refine zs_iconst (pc := 56) dM_commonestCode_56 zi_1 ?_
    refine zcV1_1 (pc := 57) (d2 := d - 1) (s_M_throwing hl) dM_commonestCode_57 kM_90 mdM_throwing miM_throwing mvM_throwing rfl (by exact z2_a) rfl (Nat.le_of_ble_eq_true rfl) (by omega) (by omega) (by omega) ?_
    refine zs_goto (pc := 60) 64 dM_commonestCode_60 rfl ?_
    exact zs_iret (pc := 64) dM_commonestCode_64 rfl rfl (by omega) (by omega) (⟨rfl, rfl, rfl⟩)
  · have ep : zpre r = nI (r - 1) := if_neg e
    rw [if_neg e, ep]
    refine zs_iload_n (pc := 50) dM_commonestCode_50 rfl ?_
    refine zs_iconst (pc := 51) dM_commonestCode_51 zi_m1 ?_
    refine zs_icmp_ne (pc := 52) 63 dM_commonestCode_52 rfl (fun _ => ?_) (fun h9 => absurd h9 (nI_kn (by omega)))
    refine zs_iload_n (pc := 63) dM_commonestCode_63 rfl ?_
    exact zs_iret (pc := 64) dM_commonestCode_64 rfl rfl (by omega) (by omega) (⟨rfl, rfl, rfl⟩)
theorem lp_M_entriesIn {Γ : zG} {l : Launch} (hl : l.stackTraces = false) {d : Nat} (hd : 2 ≤ d) {h : zH} {n a : Nat} {g : Nat → Nat} {s3 s5 s6 s7 s8 s10 s12 s16 s17 s18 s19 s20 : Int32} {B s : Nat} {FN : List Frame → Array Value → State → State → Prop} (hI : IG B g) (hB : B < 2 ^ 20) (hs : s < 2 ^ 31) (K : Z Γ l mM_entriesIn d 0 0 FN 72 [some (.ref a), some (.int (nI s)), some (.int (nI (zcnt (fun k => eg g k 4 == s) (g 0)))), some (.int (nI (g 0)))] [] (z2 h a (zAr 0 246 (g)) (zMo a s3 s5 s6 s7 (nI 0) s10 s12 s16 s17 s18 s19 s20)) n 0 0) : ∀ i j, i + j = g 0 → Z Γ l mM_entriesIn d 0 0 FN 33 [some (.ref a), some (.int (nI s)), some (.int (nI (zcnt (fun k => eg g k 4 == s) j))), some (.int (nI j))] [] (z2 h a (zAr 0 246 (g)) (zMo a s3 s5 s6 s7 (nI 0) s10 s12 s16 s17 s18 s19 s20)) n 0 0 := by
  have i0 := hI.1
  intro i
  induction i with
  | zero =>
    intro j hj
    obtain rfl : j = g 0 := by omega
    refine zs_iload_n (pc := 33) dM_entriesIn_33 rfl ?_
    refine zs_aload_n (pc := 34) dM_entriesIn_34 rfl ?_
    refine zs_get (pc := 35) dM_entriesIn_35 fM_9 (by first | exact z2_a | exact z2_1) (by rfl) ?_
    refine zs_iconst (pc := 38) dM_entriesIn_38 zi_0 ?_
    refine zn_iald (pc := 39) dM_entriesIn_39 (by first | exact z2_a | exact z2_1) (by omega) (by first | decide | assumption) ?_
    refine zn_icmp_ge (pc := 40) 72 dM_entriesIn_40 rfl (by omega) (by omega) (fun _ => ?_) (fun h9 => absurd h9 (by omega))
    exact K
  | succ i ih =>
    intro j hj
    have hz := ih (j + 1) (by omega)
    have hb4 := (hI.b hB (j := j) (by omega)).2.2.2.2.1
    have e4 : g (6 + 12 * j + 4) = eg g j 4 := rfl
    by_cases e : eg g j 4 = s
    · rw [zcnt_t (p := fun k => eg g k 4 == s) (by simpa using e)] at hz
      refine zs_iload_n (pc := 33) dM_entriesIn_33 rfl ?_
      refine zs_aload_n (pc := 34) dM_entriesIn_34 rfl ?_
      refine zs_get (pc := 35) dM_entriesIn_35 fM_9 (by first | exact z2_a | exact z2_1) (by rfl) ?_
      refine zs_iconst (pc := 38) dM_entriesIn_38 zi_0 ?_
      refine zn_iald (pc := 39) dM_entriesIn_39 (by first | exact z2_a | exact z2_1) (by omega) (by first | decide | assumption) ?_
      refine zn_icmp_ge (pc := 40) 72 dM_entriesIn_40 rfl (by omega) (by omega) (fun h9 => absurd h9 (by omega)) (fun _ => ?_)
      refine zs_iload_n (pc := 43) dM_entriesIn_43 rfl ?_
      refine zs_aload_n (pc := 44) dM_entriesIn_44 rfl ?_
      refine zs_get (pc := 45) dM_entriesIn_45 fM_9 (by first | exact z2_a | exact z2_1) (by rfl) ?_
      refine zs_iload_n (pc := 48) dM_entriesIn_48 rfl ?_
      refine zcS1_1 (pc := 49) (d2 := d - 1) (s_M_entryAt hl) dM_entriesIn_49 kM_51 mdM_entryAt msM_entryAt rfl (Nat.le_of_ble_eq_true rfl) (by omega) (by omega) (by omega) ?_
      refine zs_iconst (pc := 52) dM_entriesIn_52 zi_4 ?_
      refine zn_iadd (pc := 53) dM_entriesIn_53 ?_
      refine zn_iald (pc := 54) dM_entriesIn_54 (by first | exact z2_a | exact z2_1) (by omega) (by first | decide | assumption) ?_
      refine zs_iload_n (pc := 55) dM_entriesIn_55 rfl ?_
      refine zn_icmp_ne (pc := 56) 63 dM_entriesIn_56 rfl (by omega) (by omega) (fun h9 => absurd h9 (fun q => q e)) (fun _ => ?_)
      refine zs_iconst (pc := 59) dM_entriesIn_59 zi_1 ?_
      refine zs_goto (pc := 60) 64 dM_entriesIn_60 rfl ?_
      refine zn_iadd (pc := 64) dM_entriesIn_64 ?_
      refine zs_istore_n (pc := 65) (ls2 := [_, _, _, _]) dM_entriesIn_65 (Nat.le_of_ble_eq_true rfl) rfl ?_
      refine zn_iinc (pc := 66) (ls2 := [_, _, _, _]) dM_entriesIn_66 rfl (Nat.le_of_ble_eq_true rfl) rfl ?_
      refine zs_goto (pc := 69) 33 dM_entriesIn_69 rfl ?_
      exact hz
    · rw [zcnt_f (p := fun k => eg g k 4 == s) (by simpa using e)] at hz
      refine zs_iload_n (pc := 33) dM_entriesIn_33 rfl ?_
      refine zs_aload_n (pc := 34) dM_entriesIn_34 rfl ?_
      refine zs_get (pc := 35) dM_entriesIn_35 fM_9 (by first | exact z2_a | exact z2_1) (by rfl) ?_
      refine zs_iconst (pc := 38) dM_entriesIn_38 zi_0 ?_
      refine zn_iald (pc := 39) dM_entriesIn_39 (by first | exact z2_a | exact z2_1) (by omega) (by first | decide | assumption) ?_
      refine zn_icmp_ge (pc := 40) 72 dM_entriesIn_40 rfl (by omega) (by omega) (fun h9 => absurd h9 (by omega)) (fun _ => ?_)
      refine zs_iload_n (pc := 43) dM_entriesIn_43 rfl ?_
      refine zs_aload_n (pc := 44) dM_entriesIn_44 rfl ?_
      refine zs_get (pc := 45) dM_entriesIn_45 fM_9 (by first | exact z2_a | exact z2_1) (by rfl) ?_
      refine zs_iload_n (pc := 48) dM_entriesIn_48 rfl ?_
      refine zcS1_1 (pc := 49) (d2 := d - 1) (s_M_entryAt hl) dM_entriesIn_49 kM_51 mdM_entryAt msM_entryAt rfl (Nat.le_of_ble_eq_true rfl) (by omega) (by omega) (by omega) ?_
      refine zs_iconst (pc := 52) dM_entriesIn_52 zi_4 ?_
      refine zn_iadd (pc := 53) dM_entriesIn_53 ?_
      refine zn_iald (pc := 54) dM_entriesIn_54 (by first | exact z2_a | exact z2_1) (by omega) (by first | decide | assumption) ?_
      refine zs_iload_n (pc := 55) dM_entriesIn_55 rfl ?_
      refine zn_icmp_ne (pc := 56) 63 dM_entriesIn_56 rfl (by omega) (by omega) (fun _ => ?_) (fun h9 => absurd h9 (e))
      refine zs_iconst (pc := 63) dM_entriesIn_63 zi_0 ?_
      refine zn_iadd (pc := 64) dM_entriesIn_64 ?_
      refine zs_istore_n (pc := 65) (ls2 := [_, _, _, _]) dM_entriesIn_65 (Nat.le_of_ble_eq_true rfl) rfl ?_
      refine zn_iinc (pc := 66) (ls2 := [_, _, _, _]) dM_entriesIn_66 rfl (Nat.le_of_ble_eq_true rfl) rfl ?_
      refine zs_goto (pc := 69) 33 dM_entriesIn_69 rfl ?_
      exact hz
theorem s_M_entriesIn {Γ : zG} {l : Launch} (hl : l.stackTraces = false) {d : Nat} (hd : 2 ≤ d) {h : zH} {n a : Nat} {g : Nat → Nat} {s3 s5 s6 s7 s8 s10 s12 s16 s17 s18 s19 s20 : Int32} {B : Nat} (hI : IG B g) (hB : B < 2 ^ 20) (y : Int32) : zC Γ l d mM_entriesIn [.ref a, .int y] (z2 h a (zAr 0 246 (g)) (zMo a s3 s5 s6 s7 s8 s10 s12 s16 s17 s18 s19 s20)) n 0 0 (zR (some (.int (aIn g y).2)) (z2 h a (zAr 0 246 (g)) (zMo a s3 s5 s6 s7 (nI (aIn g y).1) s10 s12 s16 s17 s18 s19 s20)) n) := by
  have i3 := hI.2.2.2.1
  unfold aIn
  refine zC_of (ls := [some (.ref a), some (.int y), none, none]) hl (by decide +kernel) rfl (Nat.le_of_ble_eq_true rfl) rfl ?_
  cases hv : zIx y (g 2) with
  | true =>
    rw [if_pos rfl]
    have hv9 := hv
    obtain ⟨v1, v2⟩ := zIx_y hv
    generalize y.toInt.toNat = s at v1 v2 ⊢
    subst v2
    refine zs_aload_n (pc := 0) dM_entriesIn_0 rfl ?_
    refine zs_iconst (pc := 1) dM_entriesIn_1 zi_0 ?_
    refine zs_put (pc := 2) (fs2 := [_, _, _, _, _, _, _, _, _, _, _, _, _, _, _, _, _, _, _, _, _]) dM_entriesIn_2 fM_45 (by first | exact z2_a | exact z2_1) (by rfl) (by rfl) (by exact Nat.le_of_ble_eq_true rfl) (by rfl) ?_
    rw [z2_O]
    refine zs_iload_n (pc := 5) dM_entriesIn_5 rfl ?_
    refine zs_i2l (pc := 6) dM_entriesIn_6 ?_
    refine zs_lconst (pc := 7) (v := 0) dM_entriesIn_7 (by decide) ?_
    refine zs_aload_n (pc := 8) dM_entriesIn_8 rfl ?_
    refine zs_get (pc := 9) dM_entriesIn_9 fM_9 (by first | exact z2_a | exact z2_1) (by rfl) ?_
    refine zs_iconst (pc := 12) dM_entriesIn_12 zi_2 ?_
    refine zn_iald (pc := 13) dM_entriesIn_13 (by first | exact z2_a | exact z2_1) (by omega) (by first | decide | assumption) ?_
    refine zs_iconst (pc := 14) dM_entriesIn_14 zi_1 ?_
    refine zs_isub (pc := 15) dM_entriesIn_15 ?_
    refine zs_i2l (pc := 16) dM_entriesIn_16 ?_
    refine zcS1_3 (pc := 17) (d2 := d - 1) (s_M_inX_y hl (by decide) (nI_m64 (by omega)) hv9) dM_entriesIn_17 kM_55 mdM_in msM_in rfl (Nat.le_of_ble_eq_true rfl) (by omega) (by omega) (by omega) ?_
    refine zs_if_ne (pc := 20) 29 dM_entriesIn_20 rfl (fun _ => ?_) (fun h9 => absurd h9 (by decide))
    refine zs_iconst (pc := 29) dM_entriesIn_29 zi_0 ?_
    refine zs_istore_n (pc := 30) (ls2 := [_, _, _, _]) dM_entriesIn_30 (Nat.le_of_ble_eq_true rfl) rfl ?_
    refine zs_iconst (pc := 31) dM_entriesIn_31 zi_0 ?_
    refine zs_istore_n (pc := 32) (ls2 := [_, _, _, _]) dM_entriesIn_32 (Nat.le_of_ble_eq_true rfl) rfl ?_
    refine lp_M_entriesIn (s8 := s8) (s := s) hl hd hI hB (by omega) ?_ (g 0) 0 rfl
    refine zs_iload_n (pc := 72) dM_entriesIn_72 rfl ?_
    exact zs_iret (pc := 73) dM_entriesIn_73 rfl rfl (by omega) (by omega) (⟨rfl, rfl, rfl⟩)
  | false =>
    rw [if_neg (by decide)]
    refine zs_aload_n (pc := 0) dM_entriesIn_0 rfl ?_
    refine zs_iconst (pc := 1) dM_entriesIn_1 zi_0 ?_
    refine zs_put (pc := 2) (fs2 := [_, _, _, _, _, _, _, _, _, _, _, _, _, _, _, _, _, _, _, _, _]) dM_entriesIn_2 fM_45 (by first | exact z2_a | exact z2_1) (by rfl) (by rfl) (by exact Nat.le_of_ble_eq_true rfl) (by rfl) ?_
    rw [z2_O]
    refine zs_iload_n (pc := 5) dM_entriesIn_5 rfl ?_
    refine zs_i2l (pc := 6) dM_entriesIn_6 ?_
    refine zs_lconst (pc := 7) (v := 0) dM_entriesIn_7 (by decide) ?_
    refine zs_aload_n (pc := 8) dM_entriesIn_8 rfl ?_
    refine zs_get (pc := 9) dM_entriesIn_9 fM_9 (by first | exact z2_a | exact z2_1) (by rfl) ?_
    refine zs_iconst (pc := 12) dM_entriesIn_12 zi_2 ?_
    refine zn_iald (pc := 13) dM_entriesIn_13 (by first | exact z2_a | exact z2_1) (by omega) (by first | decide | assumption) ?_
    refine zs_iconst (pc := 14) dM_entriesIn_14 zi_1 ?_
    refine zs_isub (pc := 15) dM_entriesIn_15 ?_
    refine zs_i2l (pc := 16) dM_entriesIn_16 ?_
    refine zcS1_3 (pc := 17) (d2 := d - 1) (s_M_inX_n hl (by decide) (nI_m64 (by omega)) hv) dM_entriesIn_17 kM_55 mdM_in msM_in rfl (Nat.le_of_ble_eq_true rfl) (by omega) (by omega) (by omega) ?_
    refine zs_if_ne (pc := 20) 29 dM_entriesIn_20 rfl (fun h9 => absurd h9 (by decide)) (fun _ => ?_)
    refine zs_aload_n (pc := 23) dM_entriesIn_23 rfl ?_
    refine zs_iconst (pc := 24) dM_entriesIn_24 zi_1 ?_
    refine zcV1_1 (pc := 25) (d2 := d - 1) (s_M_throwing hl) dM_entriesIn_25 kM_90 mdM_throwing miM_throwing mvM_throwing rfl (by exact z2_a) rfl (Nat.le_of_ble_eq_true rfl) (by omega) (by omega) (by omega) ?_
    exact zs_iret (pc := 28) dM_entriesIn_28 rfl rfl (by omega) (by omega) (⟨rfl, rfl, rfl⟩)
theorem lp_M_fadingWithin {Γ : zG} {l : Launch} (hl : l.stackTraces = false) {d : Nat} (hd : 3 ≤ d) {h : zH} {n a : Nat} {g : Nat → Nat} {s3 s5 s6 s7 s8 s10 s12 s16 s17 s18 s19 s20 : Int32} {B v : Nat} {FN : List Frame → Array Value → State → State → Prop} (hI : IG B g) (hB : B < 2 ^ 20) (hv : v < 2 ^ 31) (K : Z Γ l mM_fadingWithin d 0 0 FN 60 [some (.ref a), some (.int (nI v)), some (.int (nI (zcnt (fun k => decide (zlife (eg g k) - eg g k 2 + 1 ≤ v)) (g 0)))), some (.int (nI (g 0)))] [] (z2 h a (zAr 0 246 (g)) (zMo a s3 s5 s6 s7 (nI 0) s10 s12 s16 s17 s18 s19 s20)) n 0 0) : ∀ i j, i + j = g 0 → Z Γ l mM_fadingWithin d 0 0 FN 27 [some (.ref a), some (.int (nI v)), some (.int (nI (zcnt (fun k => decide (zlife (eg g k) - eg g k 2 + 1 ≤ v)) j))), some (.int (nI j))] [] (z2 h a (zAr 0 246 (g)) (zMo a s3 s5 s6 s7 (nI 0) s10 s12 s16 s17 s18 s19 s20)) n 0 0 := by
  have i0 := hI.1
  intro i
  induction i with
  | zero =>
    intro j hj
    obtain rfl : j = g 0 := by omega
    refine zs_iload_n (pc := 27) dM_fadingWithin_27 rfl ?_
    refine zs_aload_n (pc := 28) dM_fadingWithin_28 rfl ?_
    refine zs_get (pc := 29) dM_fadingWithin_29 fM_9 (by first | exact z2_a | exact z2_1) (by rfl) ?_
    refine zs_iconst (pc := 32) dM_fadingWithin_32 zi_0 ?_
    refine zn_iald (pc := 33) dM_fadingWithin_33 (by first | exact z2_a | exact z2_1) (by omega) (by first | decide | assumption) ?_
    refine zn_icmp_ge (pc := 34) 60 dM_fadingWithin_34 rfl (by omega) (by omega) (fun _ => ?_) (fun h9 => absurd h9 (by omega))
    exact K
  | succ i ih =>
    intro j hj
    have hz := ih (j + 1) (by omega)
    obtain ⟨b0, b1, b2, b3, b4, b5, b6⟩ := hI.b hB (j := j) (by omega)
    have hw := (hI.w (j := j) (by omega)).2
    have hlf := zlife_le (eg g j)
    by_cases e : zlife (eg g j) - eg g j 2 + 1 ≤ v
    · rw [zcnt_t (p := fun k => decide (zlife (eg g k) - eg g k 2 + 1 ≤ v)) (decide_eq_true e)] at hz
      refine zs_iload_n (pc := 27) dM_fadingWithin_27 rfl ?_
      refine zs_aload_n (pc := 28) dM_fadingWithin_28 rfl ?_
      refine zs_get (pc := 29) dM_fadingWithin_29 fM_9 (by first | exact z2_a | exact z2_1) (by rfl) ?_
      refine zs_iconst (pc := 32) dM_fadingWithin_32 zi_0 ?_
      refine zn_iald (pc := 33) dM_fadingWithin_33 (by first | exact z2_a | exact z2_1) (by omega) (by first | decide | assumption) ?_
      refine zn_icmp_ge (pc := 34) 60 dM_fadingWithin_34 rfl (by omega) (by omega) (fun h9 => absurd h9 (by omega)) (fun _ => ?_)
      refine zs_iload_n (pc := 37) dM_fadingWithin_37 rfl ?_
      refine zs_aload_n (pc := 38) dM_fadingWithin_38 rfl ?_
      refine zs_iload_n (pc := 39) dM_fadingWithin_39 rfl ?_
      refine zcV1_1 (pc := 40) (d2 := d - 1) (s_M_daysLeft hl (by omega) (by omega) (by omega) b3 hw) dM_fadingWithin_40 kM_174 mdM_daysLeft miM_daysLeft mvM_daysLeft rfl (by exact z2_a) rfl (Nat.le_of_ble_eq_true rfl) (by omega) (by omega) (by omega) ?_
      refine zs_iload_n (pc := 43) dM_fadingWithin_43 rfl ?_
      refine zn_icmp_gt (pc := 44) 51 dM_fadingWithin_44 rfl (by omega) (by omega) (fun h9 => absurd h9 (by omega)) (fun _ => ?_)
      refine zs_iconst (pc := 47) dM_fadingWithin_47 zi_1 ?_
      refine zs_goto (pc := 48) 52 dM_fadingWithin_48 rfl ?_
      refine zn_iadd (pc := 52) dM_fadingWithin_52 ?_
      refine zs_istore_n (pc := 53) (ls2 := [_, _, _, _]) dM_fadingWithin_53 (Nat.le_of_ble_eq_true rfl) rfl ?_
      refine zn_iinc (pc := 54) (ls2 := [_, _, _, _]) dM_fadingWithin_54 rfl (Nat.le_of_ble_eq_true rfl) rfl ?_
      refine zs_goto (pc := 57) 27 dM_fadingWithin_57 rfl ?_
      exact hz
    · rw [zcnt_f (p := fun k => decide (zlife (eg g k) - eg g k 2 + 1 ≤ v)) (decide_eq_false e)] at hz
      refine zs_iload_n (pc := 27) dM_fadingWithin_27 rfl ?_
      refine zs_aload_n (pc := 28) dM_fadingWithin_28 rfl ?_
      refine zs_get (pc := 29) dM_fadingWithin_29 fM_9 (by first | exact z2_a | exact z2_1) (by rfl) ?_
      refine zs_iconst (pc := 32) dM_fadingWithin_32 zi_0 ?_
      refine zn_iald (pc := 33) dM_fadingWithin_33 (by first | exact z2_a | exact z2_1) (by omega) (by first | decide | assumption) ?_
      refine zn_icmp_ge (pc := 34) 60 dM_fadingWithin_34 rfl (by omega) (by omega) (fun h9 => absurd h9 (by omega)) (fun _ => ?_)
      refine zs_iload_n (pc := 37) dM_fadingWithin_37 rfl ?_
      refine zs_aload_n (pc := 38) dM_fadingWithin_38 rfl ?_
      refine zs_iload_n (pc := 39) dM_fadingWithin_39 rfl ?_
      refine zcV1_1 (pc := 40) (d2 := d - 1) (s_M_daysLeft hl (by omega) (by omega) (by omega) b3 hw) dM_fadingWithin_40 kM_174 mdM_daysLeft miM_daysLeft mvM_daysLeft rfl (by exact z2_a) rfl (Nat.le_of_ble_eq_true rfl) (by omega) (by omega) (by omega) ?_
      refine zs_iload_n (pc := 43) dM_fadingWithin_43 rfl ?_
      refine zn_icmp_gt (pc := 44) 51 dM_fadingWithin_44 rfl (by omega) (by omega) (fun _ => ?_) (fun h9 => absurd h9 (by omega))
      refine zs_iconst (pc := 51) dM_fadingWithin_51 zi_0 ?_
      refine zn_iadd (pc := 52) dM_fadingWithin_52 ?_
      refine zs_istore_n (pc := 53) (ls2 := [_, _, _, _]) dM_fadingWithin_53 (Nat.le_of_ble_eq_true rfl) rfl ?_
      refine zn_iinc (pc := 54) (ls2 := [_, _, _, _]) dM_fadingWithin_54 rfl (Nat.le_of_ble_eq_true rfl) rfl ?_
      refine zs_goto (pc := 57) 27 dM_fadingWithin_57 rfl ?_
      exact hz
theorem s_M_fadingWithin {Γ : zG} {l : Launch} (hl : l.stackTraces = false) {d : Nat} (hd : 3 ≤ d) {h : zH} {n a : Nat} {g : Nat → Nat} {s3 s5 s6 s7 s8 s10 s12 s16 s17 s18 s19 s20 : Int32} {B : Nat} (hI : IG B g) (hB : B < 2 ^ 20) (y : Int32) : zC Γ l d mM_fadingWithin [.ref a, .int y] (z2 h a (zAr 0 246 (g)) (zMo a s3 s5 s6 s7 s8 s10 s12 s16 s17 s18 s19 s20)) n 0 0 (zR (some (.int (aFad g y).2)) (z2 h a (zAr 0 246 (g)) (zMo a s3 s5 s6 s7 (nI (aFad g y).1) s10 s12 s16 s17 s18 s19 s20)) n) := by
  unfold aFad
  refine zC_of (ls := [some (.ref a), some (.int y), none, none]) hl (by decide +kernel) rfl (Nat.le_of_ble_eq_true rfl) rfl ?_
  cases hv : zV y 1 60 with
  | true =>
    rw [if_pos rfl]
    have hv9 := hv
    obtain ⟨v1, v2, v3⟩ := zV_y hv
    generalize y.toInt.toNat = w at v1 v2 v3 ⊢
    subst v3
    refine zs_aload_n (pc := 0) dM_fadingWithin_0 rfl ?_
    refine zs_iconst (pc := 1) dM_fadingWithin_1 zi_0 ?_
    refine zs_put (pc := 2) (fs2 := [_, _, _, _, _, _, _, _, _, _, _, _, _, _, _, _, _, _, _, _, _]) dM_fadingWithin_2 fM_45 (by first | exact z2_a | exact z2_1) (by rfl) (by rfl) (by exact Nat.le_of_ble_eq_true rfl) (by rfl) ?_
    rw [z2_O]
    refine zs_iload_n (pc := 5) dM_fadingWithin_5 rfl ?_
    refine zs_i2l (pc := 6) dM_fadingWithin_6 ?_
    refine zs_lconst (pc := 7) (v := 1) dM_fadingWithin_7 (by decide) ?_
    refine zs_ldc2 (pc := 8) (v := 60) dM_fadingWithin_8 (zt7 (i := 5) rfl) ?_
    refine zcS1_3 (pc := 11) (d2 := d - 1) (s_M_inV_y hl (by decide) (by decide) hv9) dM_fadingWithin_11 kM_55 mdM_in msM_in rfl (Nat.le_of_ble_eq_true rfl) (by omega) (by omega) (by omega) ?_
    refine zs_if_ne (pc := 14) 23 dM_fadingWithin_14 rfl (fun _ => ?_) (fun h9 => absurd h9 (by decide))
    refine zs_iconst (pc := 23) dM_fadingWithin_23 zi_0 ?_
    refine zs_istore_n (pc := 24) (ls2 := [_, _, _, _]) dM_fadingWithin_24 (Nat.le_of_ble_eq_true rfl) rfl ?_
    refine zs_iconst (pc := 25) dM_fadingWithin_25 zi_0 ?_
    refine zs_istore_n (pc := 26) (ls2 := [_, _, _, _]) dM_fadingWithin_26 (Nat.le_of_ble_eq_true rfl) rfl ?_
    refine lp_M_fadingWithin (s8 := s8) (v := w) hl hd hI hB (by omega) ?_ (g 0) 0 rfl
    refine zs_iload_n (pc := 60) dM_fadingWithin_60 rfl ?_
    exact zs_iret (pc := 61) dM_fadingWithin_61 rfl rfl (by omega) (by omega) (⟨rfl, rfl, rfl⟩)
  | false =>
    rw [if_neg (by decide)]
    refine zs_aload_n (pc := 0) dM_fadingWithin_0 rfl ?_
    refine zs_iconst (pc := 1) dM_fadingWithin_1 zi_0 ?_
    refine zs_put (pc := 2) (fs2 := [_, _, _, _, _, _, _, _, _, _, _, _, _, _, _, _, _, _, _, _, _]) dM_fadingWithin_2 fM_45 (by first | exact z2_a | exact z2_1) (by rfl) (by rfl) (by exact Nat.le_of_ble_eq_true rfl) (by rfl) ?_
    rw [z2_O]
    refine zs_iload_n (pc := 5) dM_fadingWithin_5 rfl ?_
    refine zs_i2l (pc := 6) dM_fadingWithin_6 ?_
    refine zs_lconst (pc := 7) (v := 1) dM_fadingWithin_7 (by decide) ?_
    refine zs_ldc2 (pc := 8) (v := 60) dM_fadingWithin_8 (zt7 (i := 5) rfl) ?_
    refine zcS1_3 (pc := 11) (d2 := d - 1) (s_M_inV_n hl (by decide) (by decide) hv) dM_fadingWithin_11 kM_55 mdM_in msM_in rfl (Nat.le_of_ble_eq_true rfl) (by omega) (by omega) (by omega) ?_
    refine zs_if_ne (pc := 14) 23 dM_fadingWithin_14 rfl (fun h9 => absurd h9 (by decide)) (fun _ => ?_)
    refine zs_aload_n (pc := 17) dM_fadingWithin_17 rfl ?_
    refine zs_iconst (pc := 18) dM_fadingWithin_18 zi_1 ?_
    refine zcV1_1 (pc := 19) (d2 := d - 1) (s_M_throwing hl) dM_fadingWithin_19 kM_90 mdM_throwing miM_throwing mvM_throwing rfl (by exact z2_a) rfl (Nat.le_of_ble_eq_true rfl) (by omega) (by omega) (by omega) ?_
    exact zs_iret (pc := 22) dM_fadingWithin_22 rfl rfl (by omega) (by omega) (⟨rfl, rfl, rfl⟩)
def mMean (g : Nat → Nat) : UInt64 := if g 0 = 0 then FP.dconst0 else yMean g
def mShr (g : Nat → Nat) : UInt32 := if g 1 = 0 then FP.fconst0 else yShr g
theorem lp_M_meanCodes {Γ : zG} {l : Launch} (hl : l.stackTraces = false) {d : Nat} (hd : 2 ≤ d) {h : zH} {n a : Nat} {g : Nat → Nat} {s3 s5 s6 s7 s8 s10 s12 s16 s17 s18 s19 s20 : Int32} {FN : List Frame → Array Value → State → State → Prop} (i0 : g 0 ≤ 20) (K : Z Γ l mM_meanCodes d 0 0 FN 56 [some (.ref a), some (.int (nI (zsum (fun k => eg g k 5) (g 0)))), some (.int (nI (g 0)))] [] (z2 h a (zAr 0 246 (g)) (zMo a s3 s5 s6 s7 (nI 0) s10 s12 s16 s17 s18 s19 s20)) n 0 0) : ∀ i j, i + j = g 0 → Z Γ l mM_meanCodes d 0 0 FN 26 [some (.ref a), some (.int (nI (zsum (fun k => eg g k 5) j))), some (.int (nI j))] [] (z2 h a (zAr 0 246 (g)) (zMo a s3 s5 s6 s7 (nI 0) s10 s12 s16 s17 s18 s19 s20)) n 0 0 := by
  intro i
  induction i with
  | zero =>
    intro j hj
    obtain rfl : j = g 0 := by omega
    refine zs_iload_n (pc := 26) dM_meanCodes_26 rfl ?_
    refine zs_aload_n (pc := 27) dM_meanCodes_27 rfl ?_
    refine zs_get (pc := 28) dM_meanCodes_28 fM_9 (by first | exact z2_a | exact z2_1) (by rfl) ?_
    refine zs_iconst (pc := 31) dM_meanCodes_31 zi_0 ?_
    refine zn_iald (pc := 32) dM_meanCodes_32 (by first | exact z2_a | exact z2_1) (by omega) (by first | decide | assumption) ?_
    refine zn_icmp_ge (pc := 33) 56 dM_meanCodes_33 rfl (by omega) (by omega) (fun _ => ?_) (fun h9 => absurd h9 (by omega))
    exact K
  | succ i ih =>
    intro j hj
    have hz := ih (j + 1) (by omega)
    refine zs_iload_n (pc := 26) dM_meanCodes_26 rfl ?_
    refine zs_aload_n (pc := 27) dM_meanCodes_27 rfl ?_
    refine zs_get (pc := 28) dM_meanCodes_28 fM_9 (by first | exact z2_a | exact z2_1) (by rfl) ?_
    refine zs_iconst (pc := 31) dM_meanCodes_31 zi_0 ?_
    refine zn_iald (pc := 32) dM_meanCodes_32 (by first | exact z2_a | exact z2_1) (by omega) (by first | decide | assumption) ?_
    refine zn_icmp_ge (pc := 33) 56 dM_meanCodes_33 rfl (by omega) (by omega) (fun h9 => absurd h9 (by omega)) (fun _ => ?_)
    refine zs_iload_n (pc := 36) dM_meanCodes_36 rfl ?_
    refine zs_aload_n (pc := 37) dM_meanCodes_37 rfl ?_
    refine zs_get (pc := 38) dM_meanCodes_38 fM_9 (by first | exact z2_a | exact z2_1) (by rfl) ?_
    refine zs_iload_n (pc := 41) dM_meanCodes_41 rfl ?_
    refine zcS1_1 (pc := 42) (d2 := d - 1) (s_M_entryAt hl) dM_meanCodes_42 kM_51 mdM_entryAt msM_entryAt rfl (Nat.le_of_ble_eq_true rfl) (by omega) (by omega) (by omega) ?_
    refine zs_iconst (pc := 45) dM_meanCodes_45 zi_5 ?_
    refine zn_iadd (pc := 46) dM_meanCodes_46 ?_
    refine zn_iald (pc := 47) dM_meanCodes_47 (by first | exact z2_a | exact z2_1) (by omega) (by first | decide | assumption) ?_
    refine zn_iadd (pc := 48) dM_meanCodes_48 ?_
    refine zs_istore_n (pc := 49) (ls2 := [_, _, _]) dM_meanCodes_49 (Nat.le_of_ble_eq_true rfl) rfl ?_
    refine zn_iinc (pc := 50) (ls2 := [_, _, _]) dM_meanCodes_50 rfl (Nat.le_of_ble_eq_true rfl) rfl ?_
    refine zs_goto (pc := 53) 26 dM_meanCodes_53 rfl ?_
    exact hz
theorem s_M_meanCodes {Γ : zG} {l : Launch} (hl : l.stackTraces = false) {d : Nat} (hd : 2 ≤ d) {h : zH} {n a : Nat} {g : Nat → Nat} {s3 s5 s6 s7 s8 s10 s12 s16 s17 s18 s19 s20 : Int32} {B : Nat} (hI : IG B g) : zC Γ l d mM_meanCodes [.ref a] (z2 h a (zAr 0 246 (g)) (zMo a s3 s5 s6 s7 s8 s10 s12 s16 s17 s18 s19 s20)) n 0 0 (zR (some (.double (mMean g))) (z2 h a (zAr 0 246 (g)) (zMo a s3 s5 s6 s7 (nI (aMean g).1) s10 s12 s16 s17 s18 s19 s20)) n) := by
  have i0 := hI.1
  unfold mMean aMean
  refine zC_of (ls := [some (.ref a), none, none]) hl (by decide +kernel) rfl (Nat.le_of_ble_eq_true rfl) rfl ?_
  by_cases e : g 0 = 0
  · rw [if_pos e, if_pos e]
    refine zs_aload_n (pc := 0) dM_meanCodes_0 rfl ?_
    refine zs_iconst (pc := 1) dM_meanCodes_1 zi_0 ?_
    refine zs_put (pc := 2) (fs2 := [_, _, _, _, _, _, _, _, _, _, _, _, _, _, _, _, _, _, _, _, _]) dM_meanCodes_2 fM_45 (by first | exact z2_a | exact z2_1) (by rfl) (by rfl) (by exact Nat.le_of_ble_eq_true rfl) (by rfl) ?_
    rw [z2_O]
    refine zs_aload_n (pc := 5) dM_meanCodes_5 rfl ?_
    refine zs_get (pc := 6) dM_meanCodes_6 fM_9 (by first | exact z2_a | exact z2_1) (by rfl) ?_
    refine zs_iconst (pc := 9) dM_meanCodes_9 zi_0 ?_
    refine zn_iald (pc := 10) dM_meanCodes_10 (by first | exact z2_a | exact z2_1) (by omega) (by first | decide | assumption) ?_
    refine zn_if_ne (pc := 11) 22 dM_meanCodes_11 rfl (by omega) (fun h9 => absurd h9 (by omega)) (fun _ => ?_)
    refine zs_aload_n (pc := 14) dM_meanCodes_14 rfl ?_
    refine zs_iconst (pc := 15) dM_meanCodes_15 zi_1 ?_
    refine zcV1_1 (pc := 16) (d2 := d - 1) (s_M_throwing hl) dM_meanCodes_16 kM_90 mdM_throwing miM_throwing mvM_throwing rfl (by exact z2_a) rfl (Nat.le_of_ble_eq_true rfl) (by omega) (by omega) (by omega) ?_
    refine zs_pop (pc := 19) dM_meanCodes_19 rfl ?_
    refine zs_dconst0 (pc := 20) dM_meanCodes_20 ?_
    exact zs_dret (pc := 21) dM_meanCodes_21 rfl (by omega) (by omega) (⟨rfl, rfl, rfl⟩)
  · rw [if_neg e, if_neg e]
    have hne : nI (g 0) ≠ 0 := nI_ne (by omega) (by decide) e
    refine zs_aload_n (pc := 0) dM_meanCodes_0 rfl ?_
    refine zs_iconst (pc := 1) dM_meanCodes_1 zi_0 ?_
    refine zs_put (pc := 2) (fs2 := [_, _, _, _, _, _, _, _, _, _, _, _, _, _, _, _, _, _, _, _, _]) dM_meanCodes_2 fM_45 (by first | exact z2_a | exact z2_1) (by rfl) (by rfl) (by exact Nat.le_of_ble_eq_true rfl) (by rfl) ?_
    rw [z2_O]
    refine zs_aload_n (pc := 5) dM_meanCodes_5 rfl ?_
    refine zs_get (pc := 6) dM_meanCodes_6 fM_9 (by first | exact z2_a | exact z2_1) (by rfl) ?_
    refine zs_iconst (pc := 9) dM_meanCodes_9 zi_0 ?_
    refine zn_iald (pc := 10) dM_meanCodes_10 (by first | exact z2_a | exact z2_1) (by omega) (by first | decide | assumption) ?_
    refine zn_if_ne (pc := 11) 22 dM_meanCodes_11 rfl (by omega) (fun _ => ?_) (fun h9 => absurd h9 (by omega))
    refine zs_iconst (pc := 22) dM_meanCodes_22 zi_0 ?_
    refine zs_istore_n (pc := 23) (ls2 := [_, _, _]) dM_meanCodes_23 (Nat.le_of_ble_eq_true rfl) rfl ?_
    refine zs_iconst (pc := 24) dM_meanCodes_24 zi_0 ?_
    refine zs_istore_n (pc := 25) (ls2 := [_, _, _]) dM_meanCodes_25 (Nat.le_of_ble_eq_true rfl) rfl ?_
    refine lp_M_meanCodes (s8 := s8) hl hd i0 ?_ (g 0) 0 rfl
    refine zs_iload_n (pc := 56) dM_meanCodes_56 rfl ?_
    refine zs_i2d (pc := 57) dM_meanCodes_57 ?_
    refine zs_aload_n (pc := 58) dM_meanCodes_58 rfl ?_
    refine zs_get (pc := 59) dM_meanCodes_59 fM_9 (by first | exact z2_a | exact z2_1) (by rfl) ?_
    refine zs_iconst (pc := 62) dM_meanCodes_62 zi_0 ?_
    refine zn_iald (pc := 63) dM_meanCodes_63 (by first | exact z2_a | exact z2_1) (by omega) (by first | decide | assumption) ?_
    refine zs_i2d (pc := 64) dM_meanCodes_64 ?_
    refine zs_ddiv (pc := 65) dM_meanCodes_65 (ynn64 (ydd_n hne)) ?_
    exact zs_dret (pc := 66) dM_meanCodes_66 rfl (by omega) (by omega) (⟨rfl, rfl, rfl⟩)
theorem s_M_fadedShare {Γ : zG} {l : Launch} (hl : l.stackTraces = false) {d : Nat} (hd : 2 ≤ d) {h : zH} {n a : Nat} {g : Nat → Nat} {s3 s5 s6 s7 s8 s10 s12 s16 s17 s18 s19 s20 : Int32} {B : Nat} (hI : IG B g) (hB : B < 2 ^ 20) : zC Γ l d mM_fadedShare [.ref a] (z2 h a (zAr 0 246 (g)) (zMo a s3 s5 s6 s7 s8 s10 s12 s16 s17 s18 s19 s20)) n 0 0 (zR (some (.float (mShr g))) (z2 h a (zAr 0 246 (g)) (zMo a s3 s5 s6 s7 (nI (aShr g).1) s10 s12 s16 s17 s18 s19 s20)) n) := by
  have i1 := hI.2.1
  unfold mShr aShr
  refine zC_of (ls := [some (.ref a)]) hl (by decide +kernel) rfl (Nat.le_of_ble_eq_true rfl) rfl ?_
  by_cases e : g 1 = 0
  · rw [if_pos e, if_pos e]
    refine zs_aload_n (pc := 0) dM_fadedShare_0 rfl ?_
    refine zs_iconst (pc := 1) dM_fadedShare_1 zi_0 ?_
    refine zs_put (pc := 2) (fs2 := [_, _, _, _, _, _, _, _, _, _, _, _, _, _, _, _, _, _, _, _, _]) dM_fadedShare_2 fM_45 (by first | exact z2_a | exact z2_1) (by rfl) (by rfl) (by exact Nat.le_of_ble_eq_true rfl) (by rfl) ?_
    rw [z2_O]
    refine zs_aload_n (pc := 5) dM_fadedShare_5 rfl ?_
    refine zs_get (pc := 6) dM_fadedShare_6 fM_9 (by first | exact z2_a | exact z2_1) (by rfl) ?_
    refine zs_iconst (pc := 9) dM_fadedShare_9 zi_1 ?_
    refine zn_iald (pc := 10) dM_fadedShare_10 (by first | exact z2_a | exact z2_1) (by omega) (by first | decide | assumption) ?_
    refine zn_if_ne (pc := 11) 22 dM_fadedShare_11 rfl (by omega) (fun h9 => absurd h9 (by omega)) (fun _ => ?_)
    refine zs_aload_n (pc := 14) dM_fadedShare_14 rfl ?_
    refine zs_iconst (pc := 15) dM_fadedShare_15 zi_1 ?_
    refine zcV1_1 (pc := 16) (d2 := d - 1) (s_M_throwing hl) dM_fadedShare_16 kM_90 mdM_throwing miM_throwing mvM_throwing rfl (by exact z2_a) rfl (Nat.le_of_ble_eq_true rfl) (by omega) (by omega) (by omega) ?_
    refine zs_pop (pc := 19) dM_fadedShare_19 rfl ?_
    refine zs_fconst0 (pc := 20) dM_fadedShare_20 ?_
    exact zs_fret (pc := 21) dM_fadedShare_21 rfl (by omega) (by omega) (⟨rfl, rfl, rfl⟩)
  · rw [if_neg e, if_neg e]
    have hne : nI (g 1) ≠ 0 := nI_ne (by omega) (by decide) e
    refine zs_aload_n (pc := 0) dM_fadedShare_0 rfl ?_
    refine zs_iconst (pc := 1) dM_fadedShare_1 zi_0 ?_
    refine zs_put (pc := 2) (fs2 := [_, _, _, _, _, _, _, _, _, _, _, _, _, _, _, _, _, _, _, _, _]) dM_fadedShare_2 fM_45 (by first | exact z2_a | exact z2_1) (by rfl) (by rfl) (by exact Nat.le_of_ble_eq_true rfl) (by rfl) ?_
    rw [z2_O]
    refine zs_aload_n (pc := 5) dM_fadedShare_5 rfl ?_
    refine zs_get (pc := 6) dM_fadedShare_6 fM_9 (by first | exact z2_a | exact z2_1) (by rfl) ?_
    refine zs_iconst (pc := 9) dM_fadedShare_9 zi_1 ?_
    refine zn_iald (pc := 10) dM_fadedShare_10 (by first | exact z2_a | exact z2_1) (by omega) (by first | decide | assumption) ?_
    refine zn_if_ne (pc := 11) 22 dM_fadedShare_11 rfl (by omega) (fun _ => ?_) (fun h9 => absurd h9 (by omega))
    refine zs_aload_n (pc := 22) dM_fadedShare_22 rfl ?_
    refine zs_get (pc := 23) dM_fadedShare_23 fM_9 (by first | exact z2_a | exact z2_1) (by rfl) ?_
    refine zs_iconst (pc := 26) dM_fadedShare_26 zi_5 ?_
    refine zn_iald (pc := 27) dM_fadedShare_27 (by first | exact z2_a | exact z2_1) (by omega) (by first | decide | assumption) ?_
    refine zs_i2f (pc := 28) dM_fadedShare_28 ?_
    refine zs_aload_n (pc := 29) dM_fadedShare_29 rfl ?_
    refine zs_get (pc := 30) dM_fadedShare_30 fM_9 (by first | exact z2_a | exact z2_1) (by rfl) ?_
    refine zs_iconst (pc := 33) dM_fadedShare_33 zi_1 ?_
    refine zn_iald (pc := 34) dM_fadedShare_34 (by first | exact z2_a | exact z2_1) (by omega) (by first | decide | assumption) ?_
    refine zs_i2f (pc := 35) dM_fadedShare_35 ?_
    refine zs_fdiv (pc := 36) dM_fadedShare_36 (ynn32 (yfd_n hne)) ?_
    exact zs_fret (pc := 37) dM_fadedShare_37 rfl (by omega) (by omega) (⟨rfl, rfl, rfl⟩)

