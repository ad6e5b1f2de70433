/-! the model: undo, the saved copy, what is stored -/
theorem s_M_thrown {Γ : zG} {l : Launch} (hl : l.stackTraces = false) {d : Nat} {h : zH} {n a : Nat} {g : Nat → Nat} {s3 s5 s6 s7 s8 s10 s12 s16 s17 s18 s19 s20 : Int32} : zC Γ l d mM_thrown [.ref a] (z2 h a (zAr 0 246 (g)) (zMo a s3 s5 s6 s7 s8 s10 s12 s16 s17 s18 s19 s20)) n 0 0 (zR (some (.int s8)) (z2 h a (zAr 0 246 (g)) (zMo a s3 s5 s6 s7 s8 s10 s12 s16 s17 s18 s19 s20)) n) := by
  refine zC_of (ls := [some (.ref a)]) hl (by decide +kernel) rfl (Nat.le_of_ble_eq_true rfl) rfl ?_
  refine zs_aload_n (pc := 0) dM_thrown_0 rfl ?_
  refine zs_get (pc := 1) dM_thrown_1 fM_45 (by first | exact z2_a | exact z2_1 | (rw [z2_n (by omega) (by omega)]; exact zu_s) | (rw [z2_n (by omega) (by omega)]; exact hU)) (by rfl) ?_
  exact zs_iret (pc := 4) dM_thrown_4 rfl rfl (by omega) (by omega) (⟨rfl, rfl, rfl⟩)
theorem s_M_undoableCount {Γ : zG} {l : Launch} (hl : l.stackTraces = false) {d : Nat} {h : zH} {n a : Nat} {g : Nat → Nat} {s3 s5 s6 s7 s8 s10 s12 s16 s17 s18 s19 s20 : Int32} : zC Γ l d mM_undoableCount [.ref a] (z2 h a (zAr 0 246 (g)) (zMo a s3 s5 s6 s7 s8 s10 s12 s16 s17 s18 s19 s20)) n 0 0 (zR (some (.int s5)) (z2 h a (zAr 0 246 (g)) (zMo a s3 s5 s6 s7 (nI 0) s10 s12 s16 s17 s18 s19 s20)) n) := by
  refine zC_of (ls := [some (.ref a)]) hl (by decide +kernel) rfl (Nat.le_of_ble_eq_true rfl) rfl ?_
  refine zs_aload_n (pc := 0) dM_undoableCount_0 rfl ?_
  refine zs_iconst (pc := 1) dM_undoableCount_1 zi_0 ?_
  refine zs_put (pc := 2) (fs2 := [_, _, _, _, _, _, _, _, _, _, _, _, _, _, _, _, _, _, _, _, _]) dM_undoableCount_2 fM_45 (by first | exact z2_a | exact z2_1 | (rw [z2_n (by omega) (by omega)]; exact zu_s) | (rw [z2_n (by omega) (by omega)]; exact hU)) (by rfl) (by rfl) (by exact Nat.le_of_ble_eq_true rfl) (by rfl) ?_
  rw [z2_O]
  refine zs_aload_n (pc := 5) dM_undoableCount_5 rfl ?_
  refine zs_get (pc := 6) dM_undoableCount_6 fM_48 (by first | exact z2_a | exact z2_1 | (rw [z2_n (by omega) (by omega)]; exact zu_s) | (rw [z2_n (by omega) (by omega)]; exact hU)) (by rfl) ?_
  exact zs_iret (pc := 9) dM_undoableCount_9 rfl rfl (by omega) (by omega) (⟨rfl, rfl, rfl⟩)
theorem s_M_errorPosition {Γ : zG} {l : Launch} (hl : l.stackTraces = false) {d : Nat} (hd : 1 ≤ d) {h : zH} {n a : Nat} {g : Nat → Nat} {s3 s5 s7 s8 s10 s12 s16 s17 s18 s19 s20 : Int32} {er : Option Nat} (hb : ∀ p, er = some p → p < 2 ^ 20) : zC Γ l d mM_errorPosition [.ref a] (z2 h a (zAr 0 246 (g)) (zMo a s3 s5 (zer er) s7 s8 s10 s12 s16 s17 s18 s19 s20)) n 0 0 (zR (some (.int (aErrorPosition er).2)) (z2 h a (zAr 0 246 (g)) (zMo a s3 s5 (zer er) s7 (nI (aErrorPosition er).1) s10 s12 s16 s17 s18 s19 s20)) n) := by
  refine zC_of (ls := [some (.ref a)]) hl (by decide +kernel) rfl (Nat.le_of_ble_eq_true rfl) rfl ?_
  cases er with
  | none =>
    refine zs_aload_n (pc := 0) dM_errorPosition_0 rfl ?_
    refine zs_iconst (pc := 1) dM_errorPosition_1 zi_0 ?_
    refine zs_put (pc := 2) (fs2 := [_, _, _, _, _, _, _, _, _, _, _, _, _, _, _, _, _, _, _, _, _]) dM_errorPosition_2 fM_45 (by first | exact z2_a | exact z2_1 | (rw [z2_n (by omega) (by omega)]; exact zu_s) | (rw [z2_n (by omega) (by omega)]; exact hU)) (by rfl) (by rfl) (by exact Nat.le_of_ble_eq_true rfl) (by rfl) ?_
    rw [z2_O]
    refine zs_aload_n (pc := 5) dM_errorPosition_5 rfl ?_
    refine zs_get (pc := 6) dM_errorPosition_6 fM_22 (by first | exact z2_a | exact z2_1 | (rw [z2_n (by omega) (by omega)]; exact zu_s) | (rw [z2_n (by omega) (by omega)]; exact hU)) (by rfl) ?_
    refine zs_iconst (pc := 9) dM_errorPosition_9 zi_m1 ?_
    refine zs_icmp_ne (pc := 10) 21 dM_errorPosition_10 rfl (fun h9 => absurd h9 (fun q => q rfl)) (fun _ => ?_)
    refine zs_aload_n (pc := 13) dM_errorPosition_13 rfl ?_
    refine zs_iconst (pc := 14) dM_errorPosition_14 zi_1 ?_
    refine zcV1_1 (pc := 15) (d2 := d - 1) (s_M_throwing hl) dM_errorPosition_15 kM_90 mdM_throwing miM_throwing mvM_throwing rfl (by exact z2_a) rfl (Nat.le_of_ble_eq_true rfl) (by omega) (by omega) (by omega) ?_
    refine zs_goto (pc := 18) 25 dM_errorPosition_18 rfl ?_
    exact zs_iret (pc := 25) dM_errorPosition_25 rfl rfl (by omega) (by omega) (⟨rfl, rfl, rfl⟩)
  | some p =>
    have hp := hb p rfl
    refine zs_aload_n (pc := 0) dM_errorPosition_0 rfl ?_
    refine zs_iconst (pc := 1) dM_errorPosition_1 zi_0 ?_
    refine zs_put (pc := 2) (fs2 := [_, _, _, _, _, _, _, _, _, _, _, _, _, _, _, _, _, _, _, _, _]) dM_errorPosition_2 fM_45 (by first | exact z2_a | exact z2_1 | (rw [z2_n (by omega) (by omega)]; exact zu_s) | (rw [z2_n (by omega) (by omega)]; exact hU)) (by rfl) (by rfl) (by exact Nat.le_of_ble_eq_true rfl) (by rfl) ?_
    rw [z2_O]
    refine zs_aload_n (pc := 5) dM_errorPosition_5 rfl ?_
    refine zs_get (pc := 6) dM_errorPosition_6 fM_22 (by first | exact z2_a | exact z2_1 | (rw [z2_n (by omega) (by omega)]; exact zu_s) | (rw [z2_n (by omega) (by omega)]; exact hU)) (by rfl) ?_
    refine zs_iconst (pc := 9) dM_errorPosition_9 zi_m1 ?_
    refine zs_icmp_ne (pc := 10) 21 dM_errorPosition_10 rfl (fun _ => ?_) (fun h9 => absurd h9 (fun q => zer_ne (by omega) q))
    refine zs_aload_n (pc := 21) dM_errorPosition_21 rfl ?_
    refine zs_get (pc := 22) dM_errorPosition_22 fM_22 (by first | exact z2_a | exact z2_1 | (rw [z2_n (by omega) (by omega)]; exact zu_s) | (rw [z2_n (by omega) (by omega)]; exact hU)) (by rfl) ?_
    exact zs_iret (pc := 25) dM_errorPosition_25 rfl rfl (by omega) (by omega) (⟨rfl, rfl, rfl⟩)
theorem s_M_failedCommand {Γ : zG} {l : Launch} (hl : l.stackTraces = false) {d : Nat} (hd : 1 ≤ d) {h : zH} {n a : Nat} {g : Nat → Nat} {s3 s5 s6 s8 s10 s12 s16 s17 s18 s19 s20 : Int32} {fl : Option Nat} (hb : ∀ p, fl = some p → p < 2 ^ 20) : zC Γ l d mM_failedCommand [.ref a] (z2 h a (zAr 0 246 (g)) (zMo a s3 s5 s6 (zer fl) s8 s10 s12 s16 s17 s18 s19 s20)) n 0 0 (zR (some (.int (aFailedCommand fl).2)) (z2 h a (zAr 0 246 (g)) (zMo a s3 s5 s6 (zer fl) (nI (aFailedCommand fl).1) s10 s12 s16 s17 s18 s19 s20)) n) := by
  refine zC_of (ls := [some (.ref a)]) hl (by decide +kernel) rfl (Nat.le_of_ble_eq_true rfl) rfl ?_
  cases fl with
  | none =>
    refine zs_aload_n (pc := 0) dM_failedCommand_0 rfl ?_
    refine zs_iconst (pc := 1) dM_failedCommand_1 zi_0 ?_
    refine zs_put (pc := 2) (fs2 := [_, _, _, _, _, _, _, _, _, _, _, _, _, _, _, _, _, _, _, _, _]) dM_failedCommand_2 fM_45 (by first | exact z2_a | exact z2_1 | (rw [z2_n (by omega) (by omega)]; exact zu_s) | (rw [z2_n (by omega) (by omega)]; exact hU)) (by rfl) (by rfl) (by exact Nat.le_of_ble_eq_true rfl) (by rfl) ?_
    rw [z2_O]
    refine zs_aload_n (pc := 5) dM_failedCommand_5 rfl ?_
    refine zs_get (pc := 6) dM_failedCommand_6 fM_26 (by first | exact z2_a | exact z2_1 | (rw [z2_n (by omega) (by omega)]; exact zu_s) | (rw [z2_n (by omega) (by omega)]; exact hU)) (by rfl) ?_
    refine zs_iconst (pc := 9) dM_failedCommand_9 zi_m1 ?_
    refine zs_icmp_ne (pc := 10) 21 dM_failedCommand_10 rfl (fun h9 => absurd h9 (fun q => q rfl)) (fun _ => ?_)
    refine zs_aload_n (pc := 13) dM_failedCommand_13 rfl ?_
    refine zs_iconst (pc := 14) dM_failedCommand_14 zi_1 ?_
    refine zcV1_1 (pc := 15) (d2 := d - 1) (s_M_throwing hl) dM_failedCommand_15 kM_90 mdM_throwing miM_throwing mvM_throwing rfl (by exact z2_a) rfl (Nat.le_of_ble_eq_true rfl) (by omega) (by omega) (by omega) ?_
    refine zs_goto (pc := 18) 25 dM_failedCommand_18 rfl ?_
    exact zs_iret (pc := 25) dM_failedCommand_25 rfl rfl (by omega) (by omega) (⟨rfl, rfl, rfl⟩)
  | some p =>
    have hp := hb p rfl
    refine zs_aload_n (pc := 0) dM_failedCommand_0 rfl ?_
    refine zs_iconst (pc := 1) dM_failedCommand_1 zi_0 ?_
    refine zs_put (pc := 2) (fs2 := [_, _, _, _, _, _, _, _, _, _, _, _, _, _, _, _, _, _, _, _, _]) dM_failedCommand_2 fM_45 (by first | exact z2_a | exact z2_1 | (rw [z2_n (by omega) (by omega)]; exact zu_s) | (rw [z2_n (by omega) (by omega)]; exact hU)) (by rfl) (by rfl) (by exact Nat.le_of_ble_eq_true rfl) (by rfl) ?_
    rw [z2_O]
    refine zs_aload_n (pc := 5) dM_failedCommand_5 rfl ?_
    refine zs_get (pc := 6) dM_failedCommand_6 fM_26 (by first | exact z2_a | exact z2_1 | (rw [z2_n (by omega) (by omega)]; exact zu_s) | (rw [z2_n (by omega) (by omega)]; exact hU)) (by rfl) ?_
    refine zs_iconst (pc := 9) dM_failedCommand_9 zi_m1 ?_
    refine zs_icmp_ne (pc := 10) 21 dM_failedCommand_10 rfl (fun _ => ?_) (fun h9 => absurd h9 (fun q => zer_ne (by omega) q))
    refine zs_aload_n (pc := 21) dM_failedCommand_21 rfl ?_
    refine zs_get (pc := 22) dM_failedCommand_22 fM_26 (by first | exact z2_a | exact z2_1 | (rw [z2_n (by omega) (by omega)]; exact zu_s) | (rw [z2_n (by omega) (by omega)]; exact hU)) (by rfl) ?_
    exact zs_iret (pc := 25) dM_failedCommand_25 rfl rfl (by omega) (by omega) (⟨rfl, rfl, rfl⟩)
theorem lp_M_undo {Γ : zG} {l : Launch} (hl : l.stackTraces = false) {d : Nat} {h : zH} {n a : Nat} {g : Nat → Nat} {s3 s6 s7 s8 s10 s12 s16 s17 s18 s19 s20 : Int32} {U : Nat → Nat} {c : Nat} {FN : List Frame → Array Value → State → State → Prop} (hU : h (a + 4) = some (zAr 0 1968 U)) (hc : c ≤ 7) (K : Z Γ l mM_undo d 0 0 FN 64 [some (.ref a), some (.int (nI 246))] [] (z2 h a (zAr 0 246 (fun q => if q < 246 then U (246 * c + q) else g q)) (zMo a s3 (nI c) s6 s7 s8 s10 s12 s16 s17 s18 s19 s20)) n 0 0) : ∀ i j, i + j = 246 → Z Γ l mM_undo d 0 0 FN 30 [some (.ref a), some (.int (nI j))] [] (z2 h a (zAr 0 246 (fun q => if q < j then U (246 * c + q) else g q)) (zMo a s3 (nI c) s6 s7 s8 s10 s12 s16 s17 s18 s19 s20)) n 0 0 := by
  intro i
  induction i with
  | zero =>
    intro j hj
    obtain rfl : j = 246 := by omega
    refine zs_iload_n (pc := 30) dM_undo_30 rfl ?_
    refine zs_sipush (pc := 31) dM_undo_31 (zi_s 246 (by decide)) ?_
    refine zn_icmp_ge (pc := 34) 64 dM_undo_34 rfl (by omega) (by omega) (fun _ => ?_) (fun h9 => absurd h9 (by omega))
    exact K
  | succ i ih =>
    intro j hj
    have hz := ih (j + 1) (by omega)
    have e : zup (fun q => if q < j then U (246 * c + q) else g q) j (U (246 * c + j)) = (fun q => if q < j + 1 then U (246 * c + q) else g q) := by
      funext q
      unfold zup
      show (if q = j then _ else if q < j then _ else _) = if q < j + 1 then _ else _
      by_cases e1 : q = j
      · subst e1
        rw [if_pos rfl, if_pos (by omega)]
      · (repeat' split) <;> first | rfl | (exfalso; omega) | (congr 1; omega) | omega
    refine zs_iload_n (pc := 30) dM_undo_30 rfl ?_
    refine zs_sipush (pc := 31) dM_undo_31 (zi_s 246 (by decide)) ?_
    refine zn_icmp_ge (pc := 34) 64 dM_undo_34 rfl (by omega) (by omega) (fun h9 => absurd h9 (by omega)) (fun _ => ?_)
    refine zs_aload_n (pc := 37) dM_undo_37 rfl ?_
    refine zs_get (pc := 38) dM_undo_38 fM_9 (by first | exact z2_a | exact z2_1 | (rw [z2_n (by omega) (by omega)]; exact zu_s) | (rw [z2_n (by omega) (by omega)]; exact hU)) (by rfl) ?_
    refine zs_iload_n (pc := 41) dM_undo_41 rfl ?_
    refine zs_aload_n (pc := 42) dM_undo_42 rfl ?_
    refine zs_get (pc := 43) dM_undo_43 fM_19 (by first | exact z2_a | exact z2_1 | (rw [z2_n (by omega) (by omega)]; exact zu_s) | (rw [z2_n (by omega) (by omega)]; exact hU)) (by rfl) ?_
    refine zs_sipush (pc := 46) dM_undo_46 (zi_s 246 (by decide)) ?_
    refine zs_aload_n (pc := 49) dM_undo_49 rfl ?_
    refine zs_get (pc := 50) dM_undo_50 fM_48 (by first | exact z2_a | exact z2_1 | (rw [z2_n (by omega) (by omega)]; exact zu_s) | (rw [z2_n (by omega) (by omega)]; exact hU)) (by rfl) ?_
    refine zn_imul (pc := 53) dM_undo_53 ?_
    refine zs_iload_n (pc := 54) dM_undo_54 rfl ?_
    refine zn_iadd (pc := 55) dM_undo_55 ?_
    refine zn_iald (pc := 56) dM_undo_56 (by first | exact z2_a | exact z2_1 | (rw [z2_n (by omega) (by omega)]; exact zu_s) | (rw [z2_n (by omega) (by omega)]; exact hU)) (by omega) (by first | decide | assumption) ?_
    refine zn_iast (pc := 57) dM_undo_57 (by first | exact z2_a | exact z2_1 | (rw [z2_n (by omega) (by omega)]; exact zu_s) | (rw [z2_n (by omega) (by omega)]; exact hU)) (by omega) (by first | decide | assumption) ?_
    first | rw [z2_G] | rw [z2_q2] | rw [z2_q3] | rw [z2_q4] | rw [z2_q5] | rw [z2_q6] | rw [z2_q9]
    rw [e]
    refine zn_iinc (pc := 58) (ls2 := [_, _]) dM_undo_58 rfl (Nat.le_of_ble_eq_true rfl) rfl ?_
    refine zs_goto (pc := 61) 30 dM_undo_61 rfl ?_
    exact hz
theorem s_M_undo {Γ : zG} {l : Launch} (hl : l.stackTraces = false) {d : Nat} (hd : 1 ≤ d) {h : zH} {n a : Nat} {g : Nat → Nat} {s3 s6 s7 s8 s10 s12 s16 s17 s18 s19 s20 : Int32} {U : Nat → Nat} {P : Nat → Nat → Nat} {c : Nat} (hU : h (a + 4) = some (zAr 0 1968 U)) (hP : zPs U P c) (hc : c ≤ 8) : zC Γ l d mM_undo [.ref a] (z2 h a (zAr 0 246 (g)) (zMo a s3 (nI c) s6 s7 s8 s10 s12 s16 s17 s18 s19 s20)) n 0 0 (zR (some (.int (aUndo c).2)) (z2 h a (zAr 0 246 (if c = 0 then g else P (c - 1))) (zMo a s3 (nI (c - 1)) s6 s7 (nI (aUndo c).1) s10 s12 s16 s17 s18 s19 s20)) n) := by
  unfold aUndo
  refine zC_of (ls := [some (.ref a), none]) hl (by decide +kernel) rfl (Nat.le_of_ble_eq_true rfl) rfl ?_
  cases c with
  | zero =>
    rw [if_pos rfl, if_pos rfl]
    refine zs_aload_n (pc := 0) dM_undo_0 rfl ?_
    refine zs_iconst (pc := 1) dM_undo_1 zi_0 ?_
    refine zs_put (pc := 2) (fs2 := [_, _, _, _, _, _, _, _, _, _, _, _, _, _, _, _, _, _, _, _, _]) dM_undo_2 fM_45 (by first | exact z2_a | exact z2_1 | (rw [z2_n (by omega) (by omega)]; exact zu_s) | (rw [z2_n (by omega) (by omega)]; exact hU)) (by rfl) (by rfl) (by exact Nat.le_of_ble_eq_true rfl) (by rfl) ?_
    rw [z2_O]
    refine zs_aload_n (pc := 5) dM_undo_5 rfl ?_
    refine zs_get (pc := 6) dM_undo_6 fM_48 (by first | exact z2_a | exact z2_1 | (rw [z2_n (by omega) (by omega)]; exact zu_s) | (rw [z2_n (by omega) (by omega)]; exact hU)) (by rfl) ?_
    refine zn_if_ne (pc := 9) 18 dM_undo_9 rfl (by omega) (fun h9 => absurd h9 (by decide)) (fun _ => ?_)
    refine zs_aload_n (pc := 12) dM_undo_12 rfl ?_
    refine zs_iconst (pc := 13) dM_undo_13 zi_1 ?_
    refine zcV1_1 (pc := 14) (d2 := d - 1) (s_M_throwing hl) dM_undo_14 kM_90 mdM_throwing miM_throwing mvM_throwing rfl (by exact z2_a) rfl (Nat.le_of_ble_eq_true rfl) (by omega) (by omega) (by omega) ?_
    exact zs_iret (pc := 17) dM_undo_17 rfl rfl (by omega) (by omega) (⟨rfl, rfl, rfl⟩)
  | succ c =>
    rw [if_neg (by omega), if_neg (by omega), show c + 1 - 1 = c by omega]
    have e0 : (fun q => if q < 0 then U (246 * c + q) else g q) = g := by
      funext q
      exact if_neg (by omega)
    have K : Z Γ l mM_undo d 0 0 (zFin Γ (zR (some (.int (nI c))) (z2 h a (zAr 0 246 (P c)) (zMo a s3 (nI c) s6 s7 (nI 0) s10 s12 s16 s17 s18 s19 s20)) n) 0 0) 64 [some (.ref a), some (.int (nI 246))] [] (z2 h a (zAr 0 246 (fun q => if q < 246 then U (246 * c + q) else g q)) (zMo a s3 (nI c) s6 s7 (nI 0) s10 s12 s16 s17 s18 s19 s20)) n 0 0 := by
      refine zs_extn (a := a + 1) (P c) z2_1 (fun q hq => ?_) ?_
      · show (if q < 246 then U (246 * c + q) else g q) = P c q
        rw [if_pos hq]
        exact hP c (by omega) q hq
      · rw [z2_G]
        refine zs_aload_n (pc := 64) dM_undo_64 rfl ?_
        refine zs_get (pc := 65) dM_undo_65 fM_48 (by first | exact z2_a | exact z2_1 | (rw [z2_n (by omega) (by omega)]; exact zu_s) | (rw [z2_n (by omega) (by omega)]; exact hU)) (by rfl) ?_
        exact zs_iret (pc := 68) dM_undo_68 rfl rfl (by omega) (by omega) (⟨rfl, rfl, rfl⟩)
    have h9 := lp_M_undo (Γ := Γ) (l := l) hl (d := d) hU (by omega) K 246 0 rfl
    rw [e0] at h9
    refine zs_aload_n (pc := 0) dM_undo_0 rfl ?_
    refine zs_iconst (pc := 1) dM_undo_1 zi_0 ?_
    refine zs_put (pc := 2) (fs2 := [_, _, _, _, _, _, _, _, _, _, _, _, _, _, _, _, _, _, _, _, _]) dM_undo_2 fM_45 (by first | exact z2_a | exact z2_1 | (rw [z2_n (by omega) (by omega)]; exact zu_s) | (rw [z2_n (by omega) (by omega)]; exact hU)) (by rfl) (by rfl) (by exact Nat.le_of_ble_eq_true rfl) (by rfl) ?_
    rw [z2_O]
    refine zs_aload_n (pc := 5) dM_undo_5 rfl ?_
    refine zs_get (pc := 6) dM_undo_6 fM_48 (by first | exact z2_a | exact z2_1 | (rw [z2_n (by omega) (by omega)]; exact zu_s) | (rw [z2_n (by omega) (by omega)]; exact hU)) (by rfl) ?_
    refine zn_if_ne (pc := 9) 18 dM_undo_9 rfl (by omega) (fun _ => ?_) (fun h9 => absurd h9 (by omega))
    refine zs_aload_n (pc := 18) dM_undo_18 rfl ?_
    refine zs_dup (pc := 19) dM_undo_19 rfl ?_
    refine zs_get (pc := 20) dM_undo_20 fM_48 (by first | exact z2_a | exact z2_1 | (rw [z2_n (by omega) (by omega)]; exact zu_s) | (rw [z2_n (by omega) (by omega)]; exact hU)) (by rfl) ?_
    refine zs_iconst (pc := 23) dM_undo_23 zi_1 ?_
    refine zn_isub (pc := 24) dM_undo_24 (by omega) ?_
    refine zs_put (pc := 25) (fs2 := [_, _, _, _, _, _, _, _, _, _, _, _, _, _, _, _, _, _, _, _, _]) dM_undo_25 fM_48 (by first | exact z2_a | exact z2_1 | (rw [z2_n (by omega) (by omega)]; exact zu_s) | (rw [z2_n (by omega) (by omega)]; exact hU)) (by rfl) (by rfl) (by exact Nat.le_of_ble_eq_true rfl) (by rfl) ?_
    rw [z2_O]
    refine zs_iconst (pc := 28) dM_undo_28 zi_0 ?_
    refine zs_istore_n (pc := 29) (ls2 := [_, _]) dM_undo_29 (Nat.le_of_ble_eq_true rfl) rfl ?_
    exact h9
theorem lp_M_save {Γ : zG} {l : Launch} (hl : l.stackTraces = false) {d : Nat} {h : zH} {n a : Nat} {g : Nat → Nat} {s3 s5 s6 s7 s8 s10 s12 s16 s17 s18 s19 s20 : Int32} {S : Nat → Nat} {FN : List Frame → Array Value → State → State → Prop} (K : Z Γ l mM_save d 0 0 FN 32 [some (.ref a), some (.int (nI 246))] [] (z2 (zu h (a + 3) (zAr 0 246 (fun q => if q < 246 then g q else S q))) a (zAr 0 246 (g)) (zMo a s3 s5 s6 s7 s8 s10 s12 s16 s17 s18 s19 s20)) n 0 0) : ∀ i j, i + j = 246 → Z Γ l mM_save d 0 0 FN 7 [some (.ref a), some (.int (nI j))] [] (z2 (zu h (a + 3) (zAr 0 246 (fun q => if q < j then g q else S q))) a (zAr 0 246 (g)) (zMo a s3 s5 s6 s7 s8 s10 s12 s16 s17 s18 s19 s20)) n 0 0 := by
  intro i
  induction i with
  | zero =>
    intro j hj
    obtain rfl : j = 246 := by omega
    refine zs_iload_n (pc := 7) dM_save_7 rfl ?_
    refine zs_sipush (pc := 8) dM_save_8 (zi_s 246 (by decide)) ?_
    refine zn_icmp_ge (pc := 11) 32 dM_save_11 rfl (by omega) (by omega) (fun _ => ?_) (fun h9 => absurd h9 (by omega))
    exact K
  | succ i ih =>
    intro j hj
    have hz := ih (j + 1) (by omega)
    have e : zup (fun q => if q < j then g q else S q) j (g j) = (fun q => if q < j + 1 then g q else S q) := by
      funext q
      unfold zup
      show (if q = j then g j else if q < j then g q else S q) = if q < j + 1 then g q else S q
      by_cases e1 : q = j
      · subst e1
        rw [if_pos rfl, if_pos (by omega)]
      · (repeat' split) <;> first | rfl | (exfalso; omega) | (congr 1; omega) | omega
    refine zs_iload_n (pc := 7) dM_save_7 rfl ?_
    refine zs_sipush (pc := 8) dM_save_8 (zi_s 246 (by decide)) ?_
    refine zn_icmp_ge (pc := 11) 32 dM_save_11 rfl (by omega) (by omega) (fun h9 => absurd h9 (by omega)) (fun _ => ?_)
    refine zs_aload_n (pc := 14) dM_save_14 rfl ?_
    refine zs_get (pc := 15) dM_save_15 fM_16 (by first | exact z2_a | exact z2_1 | (rw [z2_n (by omega) (by omega)]; exact zu_s) | (rw [z2_n (by omega) (by omega)]; exact hU)) (by rfl) ?_
    refine zs_iload_n (pc := 18) dM_save_18 rfl ?_
    refine zs_aload_n (pc := 19) dM_save_19 rfl ?_
    refine zs_get (pc := 20) dM_save_20 fM_9 (by first | exact z2_a | exact z2_1 | (rw [z2_n (by omega) (by omega)]; exact zu_s) | (rw [z2_n (by omega) (by omega)]; exact hU)) (by rfl) ?_
    refine zs_iload_n (pc := 23) dM_save_23 rfl ?_
    refine zn_iald (pc := 24) dM_save_24 (by first | exact z2_a | exact z2_1 | (rw [z2_n (by omega) (by omega)]; exact zu_s) | (rw [z2_n (by omega) (by omega)]; exact hU)) (by omega) (by first | decide | assumption) ?_
    refine zn_iast (pc := 25) dM_save_25 (by first | exact z2_a | exact z2_1 | (rw [z2_n (by omega) (by omega)]; exact zu_s) | (rw [z2_n (by omega) (by omega)]; exact hU)) (by omega) (by first | decide | assumption) ?_
    first | rw [z2_G] | rw [z2_q2] | rw [z2_q3] | rw [z2_q4] | rw [z2_q5] | rw [z2_q6] | rw [z2_q9]
    rw [zu_zu, e]
    refine zn_iinc (pc := 26) (ls2 := [_, _]) dM_save_26 rfl (Nat.le_of_ble_eq_true rfl) rfl ?_
    refine zs_goto (pc := 29) 7 dM_save_29 rfl ?_
    exact hz
theorem s_M_save {Γ : zG} {l : Launch} (hl : l.stackTraces = false) {d : Nat} {h : zH} {n a : Nat} {g : Nat → Nat} {s3 s5 s6 s7 s8 s10 s12 s16 s17 s18 s19 s20 : Int32} {S : Nat → Nat} (hU : h (a + 3) = some (zAr 0 246 S)) : zC Γ l d mM_save [.ref a] (z2 h a (zAr 0 246 (g)) (zMo a s3 s5 s6 s7 s8 s10 s12 s16 s17 s18 s19 s20)) n 0 0 (zR (some (.int (nI (g 0)))) (z2 (zu h (a + 3) (zAr 0 246 g)) a (zAr 0 246 (g)) (zMo a (nI 1) s5 s6 s7 (nI 0) s10 s12 s16 s17 s18 s19 s20)) n) := by
  have e0 : (fun q => if q < 0 then g q else S q) = S := by
    funext q
    exact if_neg (by omega)
  have K : Z Γ l mM_save d 0 0 (zFin Γ (zR (some (.int (nI (g 0)))) (z2 (zu h (a + 3) (zAr 0 246 g)) a (zAr 0 246 (g)) (zMo a (nI 1) s5 s6 s7 (nI 0) s10 s12 s16 s17 s18 s19 s20)) n) 0 0) 32 [some (.ref a), some (.int (nI 246))] [] (z2 (zu h (a + 3) (zAr 0 246 (fun q => if q < 246 then g q else S q))) a (zAr 0 246 (g)) (zMo a s3 s5 s6 s7 (nI 0) s10 s12 s16 s17 s18 s19 s20)) n 0 0 := by
    refine zs_extn (a := a + 3) g (by rw [z2_n (by omega) (by omega)]; exact zu_s) (fun q hq => if_pos hq) ?_
    rw [z2_q3, zu_zu]
    refine zs_aload_n (pc := 32) dM_save_32 rfl ?_
    refine zs_iconst (pc := 33) dM_save_33 zi_1 ?_
    refine zs_put (pc := 34) (fs2 := [_, _, _, _, _, _, _, _, _, _, _, _, _, _, _, _, _, _, _, _, _]) dM_save_34 fM_249 (by first | exact z2_a | exact z2_1 | (rw [z2_n (by omega) (by omega)]; exact zu_s) | (rw [z2_n (by omega) (by omega)]; exact hU)) (by rfl) (by rfl) (by exact Nat.le_of_ble_eq_true rfl) (by rfl) ?_
    rw [z2_O]
    refine zs_aload_n (pc := 37) dM_save_37 rfl ?_
    refine zs_get (pc := 38) dM_save_38 fM_9 (by first | exact z2_a | exact z2_1 | (rw [z2_n (by omega) (by omega)]; exact zu_s) | (rw [z2_n (by omega) (by omega)]; exact hU)) (by rfl) ?_
    refine zs_iconst (pc := 41) dM_save_41 zi_0 ?_
    refine zn_iald (pc := 42) dM_save_42 (by first | exact z2_a | exact z2_1 | (rw [z2_n (by omega) (by omega)]; exact zu_s) | (rw [z2_n (by omega) (by omega)]; exact hU)) (by omega) (by first | decide | assumption) ?_
    exact zs_iret (pc := 43) dM_save_43 rfl rfl (by omega) (by omega) (⟨rfl, rfl, rfl⟩)
  have h9 := lp_M_save (Γ := Γ) (l := l) (S := S) hl (d := d) K 246 0 rfl
  rw [e0, zu_id hU] at h9
  refine zC_of (ls := [some (.ref a), none]) hl (by decide +kernel) rfl (Nat.le_of_ble_eq_true rfl) rfl ?_
  refine zs_aload_n (pc := 0) dM_save_0 rfl ?_
  refine zs_iconst (pc := 1) dM_save_1 zi_0 ?_
  refine zs_put (pc := 2) (fs2 := [_, _, _, _, _, _, _, _, _, _, _, _, _, _, _, _, _, _, _, _, _]) dM_save_2 fM_45 (by first | exact z2_a | exact z2_1 | (rw [z2_n (by omega) (by omega)]; exact zu_s) | (rw [z2_n (by omega) (by omega)]; exact hU)) (by rfl) (by rfl) (by exact Nat.le_of_ble_eq_true rfl) (by rfl) ?_
  rw [z2_O]
  refine zs_iconst (pc := 5) dM_save_5 zi_0 ?_
  refine zs_istore_n (pc := 6) (ls2 := [_, _]) dM_save_6 (Nat.le_of_ble_eq_true rfl) rfl ?_
  exact h9
theorem lp_M_restore {Γ : zG} {l : Launch} (hl : l.stackTraces = false) {d : Nat} {h : zH} {n a : Nat} {g : Nat → Nat} {s3 s5 s6 s7 s8 s10 s12 s16 s17 s18 s19 s20 : Int32} {S : Nat → Nat} {FN : List Frame → Array Value → State → State → Prop} (hU : h (a + 3) = some (zAr 0 246 S)) (K : Z Γ l mM_restore d 0 0 FN 45 [some (.ref a), some (.int (nI 246))] [] (z2 h a (zAr 0 246 (fun q => if q < 246 then S q else g q)) (zMo a s3 s5 s6 s7 s8 s10 s12 s16 s17 s18 s19 s20)) n 0 0) : ∀ i j, i + j = 246 → Z Γ l mM_restore d 0 0 FN 20 [some (.ref a), some (.int (nI j))] [] (z2 h a (zAr 0 246 (fun q => if q < j then S q else g q)) (zMo a s3 s5 s6 s7 s8 s10 s12 s16 s17 s18 s19 s20)) n 0 0 := by
  intro i
  induction i with
  | zero =>
    intro j hj
    obtain rfl : j = 246 := by omega
    refine zs_iload_n (pc := 20) dM_restore_20 rfl ?_
    refine zs_sipush (pc := 21) dM_restore_21 (zi_s 246 (by decide)) ?_
    refine zn_icmp_ge (pc := 24) 45 dM_restore_24 rfl (by omega) (by omega) (fun _ => ?_) (fun h9 => absurd h9 (by omega))
    exact K
  | succ i ih =>
    intro j hj
    have hz := ih (j + 1) (by omega)
    have e : zup (fun q => if q < j then S q else g q) j (S j) = (fun q => if q < j + 1 then S q else g q) := by
      funext q
      unfold zup
      show (if q = j then S j else if q < j then S q else g q) = if q < j + 1 then S q else g q
      by_cases e1 : q = j
      · subst e1
        rw [if_pos rfl, if_pos (by omega)]
      · (repeat' split) <;> first | rfl | (exfalso; omega) | (congr 1; omega) | omega
    refine zs_iload_n (pc := 20) dM_restore_20 rfl ?_
    refine zs_sipush (pc := 21) dM_restore_21 (zi_s 246 (by decide)) ?_
    refine zn_icmp_ge (pc := 24) 45 dM_restore_24 rfl (by omega) (by omega) (fun h9 => absurd h9 (by omega)) (fun _ => ?_)
    refine zs_aload_n (pc := 27) dM_restore_27 rfl ?_
    refine zs_get (pc := 28) dM_restore_28 fM_9 (by first | exact z2_a | exact z2_1 | (rw [z2_n (by omega) (by omega)]; exact zu_s) | (rw [z2_n (by omega) (by omega)]; exact hU)) (by rfl) ?_
    refine zs_iload_n (pc := 31) dM_restore_31 rfl ?_
    refine zs_aload_n (pc := 32) dM_restore_32 rfl ?_
    refine zs_get (pc := 33) dM_restore_33 fM_16 (by first | exact z2_a | exact z2_1 | (rw [z2_n (by omega) (by omega)]; exact zu_s) | (rw [z2_n (by omega) (by omega)]; exact hU)) (by rfl) ?_
    refine zs_iload_n (pc := 36) dM_restore_36 rfl ?_
    refine zn_iald (pc := 37) dM_restore_37 (by first | exact z2_a | exact z2_1 | (rw [z2_n (by omega) (by omega)]; exact zu_s) | (rw [z2_n (by omega) (by omega)]; exact hU)) (by omega) (by first | decide | assumption) ?_
    refine zn_iast (pc := 38) dM_restore_38 (by first | exact z2_a | exact z2_1 | (rw [z2_n (by omega) (by omega)]; exact zu_s) | (rw [z2_n (by omega) (by omega)]; exact hU)) (by omega) (by first | decide | assumption) ?_
    first | rw [z2_G] | rw [z2_q2] | rw [z2_q3] | rw [z2_q4] | rw [z2_q5] | rw [z2_q6] | rw [z2_q9]
    rw [e]
    refine zn_iinc (pc := 39) (ls2 := [_, _]) dM_restore_39 rfl (Nat.le_of_ble_eq_true rfl) rfl ?_
    refine zs_goto (pc := 42) 20 dM_restore_42 rfl ?_
    exact hz
theorem s_M_restore {Γ : zG} {l : Launch} (hl : l.stackTraces = false) {d : Nat} (hd : 1 ≤ d) {h : zH} {n a : Nat} {g : Nat → Nat} {s6 s7 s8 s10 s12 s16 s17 s18 s19 s20 : Int32} {S : Nat → Nat} {c : Nat} {sv : Option (Nat → Nat)} (hU : h (a + 3) = some (zAr 0 246 S)) (hS : ∀ s, sv = some s → ∀ j, j < 246 → S j = s j) : zC Γ l d mM_restore [.ref a] (z2 h a (zAr 0 246 (g)) (zMo a (nI (zb sv.isSome)) (nI c) s6 s7 s8 s10 s12 s16 s17 s18 s19 s20)) n 0 0 (zR (some (.int (aRest sv).2)) (z2 h a (zAr 0 246 (sv.getD g)) (zMo a (nI (zb sv.isSome)) (nI (if sv.isSome = true then 0 else c)) s6 s7 (nI (aRest sv).1) s10 s12 s16 s17 s18 s19 s20)) n) := by
  refine zC_of (ls := [some (.ref a), none]) hl (by decide +kernel) rfl (Nat.le_of_ble_eq_true rfl) rfl ?_
  cases sv with
  | none =>
    refine zs_aload_n (pc := 0) dM_restore_0 rfl ?_
    refine zs_iconst (pc := 1) dM_restore_1 zi_0 ?_
    refine zs_put (pc := 2) (fs2 := [_, _, _, _, _, _, _, _, _, _, _, _, _, _, _, _, _, _, _, _, _]) dM_restore_2 fM_45 (by first | exact z2_a | exact z2_1 | (rw [z2_n (by omega) (by omega)]; exact zu_s) | (rw [z2_n (by omega) (by omega)]; exact hU)) (by rfl) (by rfl) (by exact Nat.le_of_ble_eq_true rfl) (by rfl) ?_
    rw [z2_O]
    refine zs_aload_n (pc := 5) dM_restore_5 rfl ?_
    refine zs_get (pc := 6) dM_restore_6 fM_249 (by first | exact z2_a | exact z2_1 | (rw [z2_n (by omega) (by omega)]; exact zu_s) | (rw [z2_n (by omega) (by omega)]; exact hU)) (by rfl) ?_
    refine zs_if_ne (pc := 9) 18 dM_restore_9 rfl (fun h9 => absurd h9 (fun q => q rfl)) (fun _ => ?_)
    refine zs_aload_n (pc := 12) dM_restore_12 rfl ?_
    refine zs_iconst (pc := 13) dM_restore_13 zi_1 ?_
    refine zcV1_1 (pc := 14) (d2 := d - 1) (s_M_throwing hl) dM_restore_14 kM_90 mdM_throwing miM_throwing mvM_throwing rfl (by exact z2_a) rfl (Nat.le_of_ble_eq_true rfl) (by omega) (by omega) (by omega) ?_
    exact zs_iret (pc := 17) dM_restore_17 rfl rfl (by omega) (by omega) (⟨rfl, rfl, rfl⟩)
  | some s =>
    have hs := hS s rfl
    have e0 : (fun q => if q < 0 then S q else g q) = g := by
      funext q
      exact if_neg (by omega)
    have K : Z Γ l mM_restore d 0 0 (zFin Γ (zR (some (.int (aRest (some s)).2)) (z2 h a (zAr 0 246 ((some s).getD g)) (zMo a (nI (zb (some s).isSome)) (nI (if (some s).isSome = true then 0 else c)) s6 s7 (nI (aRest (some s)).1) s10 s12 s16 s17 s18 s19 s20)) n) 0 0) 45 [some (.ref a), some (.int (nI 246))] [] (z2 h a (zAr 0 246 (fun q => if q < 246 then S q else g q)) (zMo a (nI (zb (some s).isSome)) (nI c) s6 s7 (nI 0) s10 s12 s16 s17 s18 s19 s20)) n 0 0 := by
      refine zs_extn (a := a + 1) s z2_1 (fun q hq => ?_) ?_
      · show (if q < 246 then S q else g q) = s q
        rw [if_pos hq]
        exact hs q hq
      · rw [z2_G]
        refine zs_aload_n (pc := 45) dM_restore_45 rfl ?_
        refine zs_iconst (pc := 46) dM_restore_46 zi_0 ?_
        refine zs_put (pc := 47) (fs2 := [_, _, _, _, _, _, _, _, _, _, _, _, _, _, _, _, _, _, _, _, _]) dM_restore_47 fM_48 (by first | exact z2_a | exact z2_1 | (rw [z2_n (by omega) (by omega)]; exact zu_s) | (rw [z2_n (by omega) (by omega)]; exact hU)) (by rfl) (by rfl) (by exact Nat.le_of_ble_eq_true rfl) (by rfl) ?_
        rw [z2_O]
        refine zs_aload_n (pc := 50) dM_restore_50 rfl ?_
        refine zs_get (pc := 51) dM_restore_51 fM_9 (by first | exact z2_a | exact z2_1 | (rw [z2_n (by omega) (by omega)]; exact zu_s) | (rw [z2_n (by omega) (by omega)]; exact hU)) (by rfl) ?_
        refine zs_iconst (pc := 54) dM_restore_54 zi_0 ?_
        refine zn_iald (pc := 55) dM_restore_55 (by first | exact z2_a | exact z2_1 | (rw [z2_n (by omega) (by omega)]; exact zu_s) | (rw [z2_n (by omega) (by omega)]; exact hU)) (by omega) (by first | decide | assumption) ?_
        exact zs_iret (pc := 56) dM_restore_56 rfl rfl (by omega) (by omega) (⟨rfl, rfl, rfl⟩)
    have h9 := lp_M_restore (Γ := Γ) (l := l) (S := S) hl (d := d) hU K 246 0 rfl
    rw [e0] at h9
    refine zs_aload_n (pc := 0) dM_restore_0 rfl ?_
    refine zs_iconst (pc := 1) dM_restore_1 zi_0 ?_
    refine zs_put (pc := 2) (fs2 := [_, _, _, _, _, _, _, _, _, _, _, _, _, _, _, _, _, _, _, _, _]) dM_restore_2 fM_45 (by first | exact z2_a | exact z2_1 | (rw [z2_n (by omega) (by omega)]; exact zu_s) | (rw [z2_n (by omega) (by omega)]; exact hU)) (by rfl) (by rfl) (by exact Nat.le_of_ble_eq_true rfl) (by rfl) ?_
    rw [z2_O]
    refine zs_aload_n (pc := 5) dM_restore_5 rfl ?_
    refine zs_get (pc := 6) dM_restore_6 fM_249 (by first | exact z2_a | exact z2_1 | (rw [z2_n (by omega) (by omega)]; exact zu_s) | (rw [z2_n (by omega) (by omega)]; exact hU)) (by rfl) ?_
    refine zs_if_ne (pc := 9) 18 dM_restore_9 rfl (fun _ => ?_) (fun h9 => absurd h9 (by show ¬ nI 1 = 0; decide))
    refine zs_iconst (pc := 18) dM_restore_18 zi_0 ?_
    refine zs_istore_n (pc := 19) (ls2 := [_, _]) dM_restore_19 (Nat.le_of_ble_eq_true rfl) rfl ?_
    exact h9

