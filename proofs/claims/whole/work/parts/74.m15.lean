/-! the model's parser: numbers -/
theorem s_M_here_y {Γ : zG} {l : Launch} (hl : l.stackTraces = false) {d : Nat} {h : zH} {n a : Nat} {g : Nat → Nat} {s3 s5 s6 s7 s8 s10 s12 s16 s19 s20 : Int32} {T : Nat → Nat} {po np : Nat} (hT : h (a + 5) = some (zAr 0 60 T)) (hn : np ≤ 60) (hp : po < np) : zC Γ l d mM_here [.ref a] (z2 h a (zAr 0 246 (g)) (zMo a s3 s5 s6 s7 s8 s10 s12 s16 (nI po) (nI np) s19 s20)) n 0 0 (zR (some (.int (nI (T po)))) (z2 h a (zAr 0 246 (g)) (zMo a s3 s5 s6 s7 s8 s10 s12 s16 (nI po) (nI np) s19 s20)) n) := by
  refine zC_of (ls := [some (.ref a)]) hl (by decide +kernel) rfl (Nat.le_of_ble_eq_true rfl) rfl ?_
  refine zs_aload_n (pc := 0) dM_here_0 rfl ?_
  refine zs_get (pc := 1) dM_here_1 fM_202 (by first | exact z2_a | exact z2_1 | (rw [z2_n (by omega) (by omega)]; exact hT)) (by rfl) ?_
  refine zs_aload_n (pc := 4) dM_here_4 rfl ?_
  refine zs_get (pc := 5) dM_here_5 fM_205 (by first | exact z2_a | exact z2_1 | (rw [z2_n (by omega) (by omega)]; exact hT)) (by rfl) ?_
  refine zn_icmp_ge (pc := 8) 23 dM_here_8 rfl (by omega) (by omega) (fun h9 => absurd h9 (by omega)) (fun _ => ?_)
  refine zs_aload_n (pc := 11) dM_here_11 rfl ?_
  refine zs_get (pc := 12) dM_here_12 fM_29 (by first | exact z2_a | exact z2_1 | (rw [z2_n (by omega) (by omega)]; exact hT)) (by rfl) ?_
  refine zs_aload_n (pc := 15) dM_here_15 rfl ?_
  refine zs_get (pc := 16) dM_here_16 fM_202 (by first | exact z2_a | exact z2_1 | (rw [z2_n (by omega) (by omega)]; exact hT)) (by rfl) ?_
  refine zn_iald (pc := 19) dM_here_19 (by first | exact z2_a | exact z2_1 | (rw [z2_n (by omega) (by omega)]; exact hT)) (by omega) (by first | decide | assumption) ?_
  refine zs_goto (pc := 20) 24 dM_here_20 rfl ?_
  exact zs_iret (pc := 24) dM_here_24 rfl rfl (by omega) (by omega) (⟨rfl, rfl, rfl⟩)
theorem s_M_here_n {Γ : zG} {l : Launch} (hl : l.stackTraces = false) {d : Nat} {h : zH} {n a : Nat} {g : Nat → Nat} {s3 s5 s6 s7 s8 s10 s12 s16 s19 s20 : Int32} {po np : Nat} (hn : np ≤ 60) (hp : ¬ po < np) (hp2 : po ≤ 60) : zC Γ l d mM_here [.ref a] (z2 h a (zAr 0 246 (g)) (zMo a s3 s5 s6 s7 s8 s10 s12 s16 (nI po) (nI np) s19 s20)) n 0 0 (zR (some (.int (-1))) (z2 h a (zAr 0 246 (g)) (zMo a s3 s5 s6 s7 s8 s10 s12 s16 (nI po) (nI np) s19 s20)) n) := by
  refine zC_of (ls := [some (.ref a)]) hl (by decide +kernel) rfl (Nat.le_of_ble_eq_true rfl) rfl ?_
  refine zs_aload_n (pc := 0) dM_here_0 rfl ?_
  refine zs_get (pc := 1) dM_here_1 fM_202 (by first | exact z2_a | exact z2_1 | (rw [z2_n (by omega) (by omega)]; exact hT)) (by rfl) ?_
  refine zs_aload_n (pc := 4) dM_here_4 rfl ?_
  refine zs_get (pc := 5) dM_here_5 fM_205 (by first | exact z2_a | exact z2_1 | (rw [z2_n (by omega) (by omega)]; exact hT)) (by rfl) ?_
  refine zn_icmp_ge (pc := 8) 23 dM_here_8 rfl (by omega) (by omega) (fun _ => ?_) (fun h9 => absurd h9 (by omega))
  refine zs_iconst (pc := 23) dM_here_23 zi_m1 ?_
  exact zs_iret (pc := 24) dM_here_24 rfl rfl (by omega) (by omega) (⟨rfl, rfl, rfl⟩)
theorem s_M_expects_y {Γ : zG} {l : Launch} (hl : l.stackTraces = false) {d : Nat} (hd : 1 ≤ d) {h : zH} {n a : Nat} {g : Nat → Nat} {s3 s5 s6 s7 s8 s10 s12 s16 s20 : Int32} {T : Nat → Nat} {po np x : Nat} (hT : h (a + 5) = some (zAr 0 60 T)) (hn : np ≤ 60) (hc : ∀ i, i < np → T i < 128) (hp : po < np) (hx : T po = x) : zC Γ l d mM_expects [.ref a, .int (nI x)] (z2 h a (zAr 0 246 (g)) (zMo a s3 s5 s6 s7 s8 s10 s12 s16 (nI po) (nI np) (nI 0) s20)) n 0 0 (zR none (z2 h a (zAr 0 246 (g)) (zMo a s3 s5 s6 s7 s8 s10 s12 s16 (nI (po + 1)) (nI np) (nI 0) s20)) n) := by
  have hc0 := hc po hp
  refine zC_of (ls := [some (.ref a), some (.int (nI x))]) hl (by decide +kernel) rfl (Nat.le_of_ble_eq_true rfl) rfl ?_
  refine zs_aload_n (pc := 0) dM_expects_0 rfl ?_
  refine zs_aload_n (pc := 1) dM_expects_1 rfl ?_
  refine zs_get (pc := 2) dM_expects_2 fM_208 (by first | exact z2_a | exact z2_1 | (rw [z2_n (by omega) (by omega)]; exact hT)) (by rfl) ?_
  refine zn_if_ne (pc := 5) 16 dM_expects_5 rfl (by omega) (fun h9 => absurd h9 (by decide)) (fun _ => ?_)
  refine zs_aload_n (pc := 8) dM_expects_8 rfl ?_
  refine zcV1_0 (pc := 9) (d2 := d - 1) (s_M_here_y hl hT hn hp) dM_expects_9 kM_212 mdM_here miM_here mvM_here rfl (by exact z2_a) rfl (Nat.le_of_ble_eq_true rfl) (by omega) (by omega) (by omega) ?_
  refine zs_iload_n (pc := 12) dM_expects_12 rfl ?_
  refine zn_icmp_eq (pc := 13) 20 dM_expects_13 rfl (by omega) (by omega) (fun _ => ?_) (fun h9 => absurd h9 (by omega))
  refine zs_iconst (pc := 20) dM_expects_20 zi_0 ?_
  refine zs_put (pc := 21) (fs2 := [_, _, _, _, _, _, _, _, _, _, _, _, _, _, _, _, _, _, _, _, _]) dM_expects_21 fM_208 (by first | exact z2_a | exact z2_1 | (rw [z2_n (by omega) (by omega)]; exact hT)) (by rfl) (by rfl) (by exact Nat.le_of_ble_eq_true rfl) (by rfl) ?_
  rw [z2_O]
  refine zs_aload_n (pc := 24) dM_expects_24 rfl ?_
  refine zs_dup (pc := 25) dM_expects_25 rfl ?_
  refine zs_get (pc := 26) dM_expects_26 fM_202 (by first | exact z2_a | exact z2_1 | (rw [z2_n (by omega) (by omega)]; exact hT)) (by rfl) ?_
  refine zs_aload_n (pc := 29) dM_expects_29 rfl ?_
  refine zs_get (pc := 30) dM_expects_30 fM_208 (by first | exact z2_a | exact z2_1 | (rw [z2_n (by omega) (by omega)]; exact hT)) (by rfl) ?_
  refine zn_if_eq (pc := 33) 40 dM_expects_33 rfl (by omega) (fun _ => ?_) (fun h9 => absurd h9 (by decide))
  refine zs_iconst (pc := 40) dM_expects_40 zi_1 ?_
  refine zn_iadd (pc := 41) dM_expects_41 ?_
  refine zs_put (pc := 42) (fs2 := [_, _, _, _, _, _, _, _, _, _, _, _, _, _, _, _, _, _, _, _, _]) dM_expects_42 fM_202 (by first | exact z2_a | exact z2_1 | (rw [z2_n (by omega) (by omega)]; exact hT)) (by rfl) (by rfl) (by exact Nat.le_of_ble_eq_true rfl) (by rfl) ?_
  rw [z2_O]
  exact zs_vret (pc := 45) dM_expects_45 rfl (by omega) (by omega) (⟨rfl, rfl, rfl⟩)
theorem s_M_expects_n {Γ : zG} {l : Launch} (hl : l.stackTraces = false) {d : Nat} (hd : 1 ≤ d) {h : zH} {n a : Nat} {g : Nat → Nat} {s3 s5 s6 s7 s8 s10 s12 s16 s20 : Int32} {T : Nat → Nat} {po np x : Nat} (hT : h (a + 5) = some (zAr 0 60 T)) (hn : np ≤ 60) (hc : ∀ i, i < np → T i < 128) (hpo : po ≤ np) (hx : x < 128) (hp : ¬ (po < np ∧ T po = x)) : zC Γ l d mM_expects [.ref a, .int (nI x)] (z2 h a (zAr 0 246 (g)) (zMo a s3 s5 s6 s7 s8 s10 s12 s16 (nI po) (nI np) (nI 0) s20)) n 0 0 (zR none (z2 h a (zAr 0 246 (g)) (zMo a s3 s5 s6 s7 s8 s10 s12 s16 (nI po) (nI np) (nI 1) s20)) n) := by
  refine zC_of (ls := [some (.ref a), some (.int (nI x))]) hl (by decide +kernel) rfl (Nat.le_of_ble_eq_true rfl) rfl ?_
  by_cases e : po < np
  · have hc0 := hc po e
    refine zs_aload_n (pc := 0) dM_expects_0 rfl ?_
    refine zs_aload_n (pc := 1) dM_expects_1 rfl ?_
    refine zs_get (pc := 2) dM_expects_2 fM_208 (by first | exact z2_a | exact z2_1 | (rw [z2_n (by omega) (by omega)]; exact hT)) (by rfl) ?_
    refine zn_if_ne (pc := 5) 16 dM_expects_5 rfl (by omega) (fun h9 => absurd h9 (by decide)) (fun _ => ?_)
    refine zs_aload_n (pc := 8) dM_expects_8 rfl ?_
    refine zcV1_0 (pc := 9) (d2 := d - 1) (s_M_here_y hl hT hn e) dM_expects_9 kM_212 mdM_here miM_here mvM_here rfl (by exact z2_a) rfl (Nat.le_of_ble_eq_true rfl) (by omega) (by omega) (by omega) ?_
    refine zs_iload_n (pc := 12) dM_expects_12 rfl ?_
    refine zn_icmp_eq (pc := 13) 20 dM_expects_13 rfl (by omega) (by omega) (fun h9 => absurd h9 (fun q => hp ⟨e, q⟩)) (fun _ => ?_)
    refine zs_iconst (pc := 16) dM_expects_16 zi_1 ?_
    refine zs_goto (pc := 17) 21 dM_expects_17 rfl ?_
    refine zs_put (pc := 21) (fs2 := [_, _, _, _, _, _, _, _, _, _, _, _, _, _, _, _, _, _, _, _, _]) dM_expects_21 fM_208 (by first | exact z2_a | exact z2_1 | (rw [z2_n (by omega) (by omega)]; exact hT)) (by rfl) (by rfl) (by exact Nat.le_of_ble_eq_true rfl) (by rfl) ?_
    rw [z2_O]
    refine zs_aload_n (pc := 24) dM_expects_24 rfl ?_
    refine zs_dup (pc := 25) dM_expects_25 rfl ?_
    refine zs_get (pc := 26) dM_expects_26 fM_202 (by first | exact z2_a | exact z2_1 | (rw [z2_n (by omega) (by omega)]; exact hT)) (by rfl) ?_
    refine zs_aload_n (pc := 29) dM_expects_29 rfl ?_
    refine zs_get (pc := 30) dM_expects_30 fM_208 (by first | exact z2_a | exact z2_1 | (rw [z2_n (by omega) (by omega)]; exact hT)) (by rfl) ?_
    refine zn_if_eq (pc := 33) 40 dM_expects_33 rfl (by omega) (fun h9 => absurd h9 (by decide)) (fun _ => ?_)
    refine zs_iconst (pc := 36) dM_expects_36 zi_0 ?_
    refine zs_goto (pc := 37) 41 dM_expects_37 rfl ?_
    refine zn_iadd (pc := 41) dM_expects_41 ?_
    refine zs_put (pc := 42) (fs2 := [_, _, _, _, _, _, _, _, _, _, _, _, _, _, _, _, _, _, _, _, _]) dM_expects_42 fM_202 (by first | exact z2_a | exact z2_1 | (rw [z2_n (by omega) (by omega)]; exact hT)) (by rfl) (by rfl) (by exact Nat.le_of_ble_eq_true rfl) (by rfl) ?_
    rw [z2_O]
    exact zs_vret (pc := 45) dM_expects_45 rfl (by omega) (by omega) (⟨rfl, rfl, rfl⟩)
  · have hne : ¬ (-1 : Int32) = nI x := fun q => nI_kn (by omega) q.symm
    refine zs_aload_n (pc := 0) dM_expects_0 rfl ?_
    refine zs_aload_n (pc := 1) dM_expects_1 rfl ?_
    refine zs_get (pc := 2) dM_expects_2 fM_208 (by first | exact z2_a | exact z2_1 | (rw [z2_n (by omega) (by omega)]; exact hT)) (by rfl) ?_
    refine zn_if_ne (pc := 5) 16 dM_expects_5 rfl (by omega) (fun h9 => absurd h9 (by decide)) (fun _ => ?_)
    refine zs_aload_n (pc := 8) dM_expects_8 rfl ?_
    refine zcV1_0 (pc := 9) (d2 := d - 1) (s_M_here_n hl hn e (by omega)) dM_expects_9 kM_212 mdM_here miM_here mvM_here rfl (by exact z2_a) rfl (Nat.le_of_ble_eq_true rfl) (by omega) (by omega) (by omega) ?_
    refine zs_iload_n (pc := 12) dM_expects_12 rfl ?_
    refine zs_icmp_eq (pc := 13) 20 dM_expects_13 rfl (fun h9 => absurd h9 (hne)) (fun _ => ?_)
    refine zs_iconst (pc := 16) dM_expects_16 zi_1 ?_
    refine zs_goto (pc := 17) 21 dM_expects_17 rfl ?_
    refine zs_put (pc := 21) (fs2 := [_, _, _, _, _, _, _, _, _, _, _, _, _, _, _, _, _, _, _, _, _]) dM_expects_21 fM_208 (by first | exact z2_a | exact z2_1 | (rw [z2_n (by omega) (by omega)]; exact hT)) (by rfl) (by rfl) (by exact Nat.le_of_ble_eq_true rfl) (by rfl) ?_
    rw [z2_O]
    refine zs_aload_n (pc := 24) dM_expects_24 rfl ?_
    refine zs_dup (pc := 25) dM_expects_25 rfl ?_
    refine zs_get (pc := 26) dM_expects_26 fM_202 (by first | exact z2_a | exact z2_1 | (rw [z2_n (by omega) (by omega)]; exact hT)) (by rfl) ?_
    refine zs_aload_n (pc := 29) dM_expects_29 rfl ?_
    refine zs_get (pc := 30) dM_expects_30 fM_208 (by first | exact z2_a | exact z2_1 | (rw [z2_n (by omega) (by omega)]; exact hT)) (by rfl) ?_
    refine zn_if_eq (pc := 33) 40 dM_expects_33 rfl (by omega) (fun h9 => absurd h9 (by decide)) (fun _ => ?_)
    refine zs_iconst (pc := 36) dM_expects_36 zi_0 ?_
    refine zs_goto (pc := 37) 41 dM_expects_37 rfl ?_
    refine zn_iadd (pc := 41) dM_expects_41 ?_
    refine zs_put (pc := 42) (fs2 := [_, _, _, _, _, _, _, _, _, _, _, _, _, _, _, _, _, _, _, _, _]) dM_expects_42 fM_202 (by first | exact z2_a | exact z2_1 | (rw [z2_n (by omega) (by omega)]; exact hT)) (by rfl) (by rfl) (by exact Nat.le_of_ble_eq_true rfl) (by rfl) ?_
    rw [z2_O]
    exact zs_vret (pc := 45) dM_expects_45 rfl (by omega) (by omega) (⟨rfl, rfl, rfl⟩)
theorem s_M_expects_w {Γ : zG} {l : Launch} (hl : l.stackTraces = false) {d : Nat} {h : zH} {n a : Nat} {g : Nat → Nat} {s3 s5 s6 s7 s8 s10 s12 s16 s18 s20 : Int32} {po : Nat} {x : Int32} : zC Γ l d mM_expects [.ref a, .int x] (z2 h a (zAr 0 246 (g)) (zMo a s3 s5 s6 s7 s8 s10 s12 s16 (nI po) s18 (nI 1) s20)) n 0 0 (zR none (z2 h a (zAr 0 246 (g)) (zMo a s3 s5 s6 s7 s8 s10 s12 s16 (nI po) s18 (nI 1) s20)) n) := by
  refine zC_of (ls := [some (.ref a), some (.int x)]) hl (by decide +kernel) rfl (Nat.le_of_ble_eq_true rfl) rfl ?_
  refine zs_aload_n (pc := 0) dM_expects_0 rfl ?_
  refine zs_aload_n (pc := 1) dM_expects_1 rfl ?_
  refine zs_get (pc := 2) dM_expects_2 fM_208 (by first | exact z2_a | exact z2_1 | (rw [z2_n (by omega) (by omega)]; exact hT)) (by rfl) ?_
  refine zn_if_ne (pc := 5) 16 dM_expects_5 rfl (by omega) (fun _ => ?_) (fun h9 => absurd h9 (by decide))
  refine zs_iconst (pc := 16) dM_expects_16 zi_1 ?_
  refine zs_goto (pc := 17) 21 dM_expects_17 rfl ?_
  refine zs_put (pc := 21) (fs2 := [_, _, _, _, _, _, _, _, _, _, _, _, _, _, _, _, _, _, _, _, _]) dM_expects_21 fM_208 (by first | exact z2_a | exact z2_1 | (rw [z2_n (by omega) (by omega)]; exact hT)) (by rfl) (by rfl) (by exact Nat.le_of_ble_eq_true rfl) (by rfl) ?_
  rw [z2_O]
  refine zs_aload_n (pc := 24) dM_expects_24 rfl ?_
  refine zs_dup (pc := 25) dM_expects_25 rfl ?_
  refine zs_get (pc := 26) dM_expects_26 fM_202 (by first | exact z2_a | exact z2_1 | (rw [z2_n (by omega) (by omega)]; exact hT)) (by rfl) ?_
  refine zs_aload_n (pc := 29) dM_expects_29 rfl ?_
  refine zs_get (pc := 30) dM_expects_30 fM_208 (by first | exact z2_a | exact z2_1 | (rw [z2_n (by omega) (by omega)]; exact hT)) (by rfl) ?_
  refine zn_if_eq (pc := 33) 40 dM_expects_33 rfl (by omega) (fun h9 => absurd h9 (by decide)) (fun _ => ?_)
  refine zs_iconst (pc := 36) dM_expects_36 zi_0 ?_
  refine zs_goto (pc := 37) 41 dM_expects_37 rfl ?_
  refine zn_iadd (pc := 41) dM_expects_41 ?_
  refine zs_put (pc := 42) (fs2 := [_, _, _, _, _, _, _, _, _, _, _, _, _, _, _, _, _, _, _, _, _]) dM_expects_42 fM_202 (by first | exact z2_a | exact z2_1 | (rw [z2_n (by omega) (by omega)]; exact hT)) (by rfl) (by rfl) (by exact Nat.le_of_ble_eq_true rfl) (by rfl) ?_
  rw [z2_O]
  exact zs_vret (pc := 45) dM_expects_45 rfl (by omega) (by omega) (⟨rfl, rfl, rfl⟩)
theorem s_M_digit_y {Γ : zG} {l : Launch} (hl : l.stackTraces = false) {d : Nat} (hd : 1 ≤ d) {h : zH} {n a : Nat} {g : Nat → Nat} {s3 s5 s6 s7 s8 s10 s12 s16 s20 : Int32} {T : Nat → Nat} {po np : Nat} (hT : h (a + 5) = some (zAr 0 60 T)) (hn : np ≤ 60) (hp : po < np ∧ 48 ≤ T po ∧ T po ≤ 57) : zC Γ l d mM_digit [.ref a] (z2 h a (zAr 0 246 (g)) (zMo a s3 s5 s6 s7 s8 s10 s12 s16 (nI po) (nI np) (nI 0) s20)) n 0 0 (zR (some (.int (nI (T po - 48)))) (z2 h a (zAr 0 246 (g)) (zMo a s3 s5 s6 s7 s8 s10 s12 s16 (nI (po + 1)) (nI np) (nI 0) s20)) n) := by
  have hv : zV (nI (T po)) 48 57 = true := decide_eq_true (by rw [nI_toInt (by omega)]; omega)
  refine zC_of (ls := [some (.ref a), none]) hl (by decide +kernel) rfl (Nat.le_of_ble_eq_true rfl) rfl ?_
  refine zs_aload_n (pc := 0) dM_digit_0 rfl ?_
  refine zs_aload_n (pc := 1) dM_digit_1 rfl ?_
  refine zs_get (pc := 2) dM_digit_2 fM_208 (by first | exact z2_a | exact z2_1 | (rw [z2_n (by omega) (by omega)]; exact hT)) (by rfl) ?_
  refine zn_if_ne (pc := 5) 25 dM_digit_5 rfl (by omega) (fun h9 => absurd h9 (by decide)) (fun _ => ?_)
  refine zs_aload_n (pc := 8) dM_digit_8 rfl ?_
  refine zcV1_0 (pc := 9) (d2 := d - 1) (s_M_here_y hl hT hn hp.1) dM_digit_9 kM_212 mdM_here miM_here mvM_here rfl (by exact z2_a) rfl (Nat.le_of_ble_eq_true rfl) (by omega) (by omega) (by omega) ?_
  refine zs_i2l (pc := 12) dM_digit_12 ?_
  refine zs_ldc2 (pc := 13) (v := 48) dM_digit_13 (zt8 (i := 1) rfl) ?_
  refine zs_ldc2 (pc := 16) (v := 57) dM_digit_16 (zt8 (i := 2) rfl) ?_
  refine zcS1_3 (pc := 19) (d2 := d - 1) (s_M_inV_y hl (lo := 48) (hi := 57) (by decide) (by decide) hv) dM_digit_19 kM_55 mdM_in msM_in rfl (Nat.le_of_ble_eq_true rfl) (by omega) (by omega) (by omega) ?_
  refine zs_if_ne (pc := 22) 29 dM_digit_22 rfl (fun _ => ?_) (fun h9 => absurd h9 (by decide))
  refine zs_iconst (pc := 29) dM_digit_29 zi_0 ?_
  refine zs_put (pc := 30) (fs2 := [_, _, _, _, _, _, _, _, _, _, _, _, _, _, _, _, _, _, _, _, _]) dM_digit_30 fM_208 (by first | exact z2_a | exact z2_1 | (rw [z2_n (by omega) (by omega)]; exact hT)) (by rfl) (by rfl) (by exact Nat.le_of_ble_eq_true rfl) (by rfl) ?_
  rw [z2_O]
  refine zs_aload_n (pc := 33) dM_digit_33 rfl ?_
  refine zs_get (pc := 34) dM_digit_34 fM_208 (by first | exact z2_a | exact z2_1 | (rw [z2_n (by omega) (by omega)]; exact hT)) (by rfl) ?_
  refine zn_if_eq (pc := 37) 44 dM_digit_37 rfl (by omega) (fun _ => ?_) (fun h9 => absurd h9 (by decide))
  refine zs_aload_n (pc := 44) dM_digit_44 rfl ?_
  refine zcV1_0 (pc := 45) (d2 := d - 1) (s_M_here_y hl hT hn hp.1) dM_digit_45 kM_212 mdM_here miM_here mvM_here rfl (by exact z2_a) rfl (Nat.le_of_ble_eq_true rfl) (by omega) (by omega) (by omega) ?_
  refine zs_bipush (pc := 48) dM_digit_48 (zi_b 48 (by decide)) ?_
  refine zn_isub (pc := 50) dM_digit_50 (by omega) ?_
  refine zs_istore_n (pc := 51) (ls2 := [_, _]) dM_digit_51 (Nat.le_of_ble_eq_true rfl) rfl ?_
  refine zs_aload_n (pc := 52) dM_digit_52 rfl ?_
  refine zs_dup (pc := 53) dM_digit_53 rfl ?_
  refine zs_get (pc := 54) dM_digit_54 fM_202 (by first | exact z2_a | exact z2_1 | (rw [z2_n (by omega) (by omega)]; exact hT)) (by rfl) ?_
  refine zs_aload_n (pc := 57) dM_digit_57 rfl ?_
  refine zs_get (pc := 58) dM_digit_58 fM_208 (by first | exact z2_a | exact z2_1 | (rw [z2_n (by omega) (by omega)]; exact hT)) (by rfl) ?_
  refine zn_if_eq (pc := 61) 68 dM_digit_61 rfl (by omega) (fun _ => ?_) (fun h9 => absurd h9 (by decide))
  refine zs_iconst (pc := 68) dM_digit_68 zi_1 ?_
  refine zn_iadd (pc := 69) dM_digit_69 ?_
  refine zs_put (pc := 70) (fs2 := [_, _, _, _, _, _, _, _, _, _, _, _, _, _, _, _, _, _, _, _, _]) dM_digit_70 fM_202 (by first | exact z2_a | exact z2_1 | (rw [z2_n (by omega) (by omega)]; exact hT)) (by rfl) (by rfl) (by exact Nat.le_of_ble_eq_true rfl) (by rfl) ?_
  rw [z2_O]
  refine zs_iload_n (pc := 73) dM_digit_73 rfl ?_
  exact zs_iret (pc := 74) dM_digit_74 rfl rfl (by omega) (by omega) (⟨rfl, rfl, rfl⟩)
theorem s_M_digit_n {Γ : zG} {l : Launch} (hl : l.stackTraces = false) {d : Nat} (hd : 1 ≤ d) {h : zH} {n a : Nat} {g : Nat → Nat} {s3 s5 s6 s7 s8 s10 s12 s16 s20 : Int32} {T : Nat → Nat} {po np : Nat} (hT : h (a + 5) = some (zAr 0 60 T)) (hn : np ≤ 60) (hc : ∀ i, i < np → T i < 128) (hpo : po ≤ np) (hp : ¬ (po < np ∧ 48 ≤ T po ∧ T po ≤ 57)) : zC Γ l d mM_digit [.ref a] (z2 h a (zAr 0 246 (g)) (zMo a s3 s5 s6 s7 s8 s10 s12 s16 (nI po) (nI np) (nI 0) s20)) n 0 0 (zR (some (.int (nI 0))) (z2 h a (zAr 0 246 (g)) (zMo a s3 s5 s6 s7 s8 s10 s12 s16 (nI po) (nI np) (nI 1) s20)) n) := by
  refine zC_of (ls := [some (.ref a), none]) hl (by decide +kernel) rfl (Nat.le_of_ble_eq_true rfl) rfl ?_
  by_cases e : po < np
  · have hc0 := hc po e
    have hv : zV (nI (T po)) 48 57 = false := decide_eq_false (by rw [nI_toInt (by omega)]; omega)
    refine zs_aload_n (pc := 0) dM_digit_0 rfl ?_
    refine zs_aload_n (pc := 1) dM_digit_1 rfl ?_
    refine zs_get (pc := 2) dM_digit_2 fM_208 (by first | exact z2_a | exact z2_1 | (rw [z2_n (by omega) (by omega)]; exact hT)) (by rfl) ?_
    refine zn_if_ne (pc := 5) 25 dM_digit_5 rfl (by omega) (fun h9 => absurd h9 (by decide)) (fun _ => ?_)
    refine zs_aload_n (pc := 8) dM_digit_8 rfl ?_
    refine zcV1_0 (pc := 9) (d2 := d - 1) (s_M_here_y hl hT hn e) dM_digit_9 kM_212 mdM_here miM_here mvM_here rfl (by exact z2_a) rfl (Nat.le_of_ble_eq_true rfl) (by omega) (by omega) (by omega) ?_
    refine zs_i2l (pc := 12) dM_digit_12 ?_
    refine zs_ldc2 (pc := 13) (v := 48) dM_digit_13 (zt8 (i := 1) rfl) ?_
    refine zs_ldc2 (pc := 16) (v := 57) dM_digit_16 (zt8 (i := 2) rfl) ?_
    refine zcS1_3 (pc := 19) (d2 := d - 1) (s_M_inV_n hl (lo := 48) (hi := 57) (by decide) (by decide) hv) dM_digit_19 kM_55 mdM_in msM_in rfl (Nat.le_of_ble_eq_true rfl) (by omega) (by omega) (by omega) ?_
    refine zs_if_ne (pc := 22) 29 dM_digit_22 rfl (fun h9 => absurd h9 (by decide)) (fun _ => ?_)
    refine zs_iconst (pc := 25) dM_digit_25 zi_1 ?_
    refine zs_goto (pc := 26) 30 dM_digit_26 rfl ?_
    refine zs_put (pc := 30) (fs2 := [_, _, _, _, _, _, _, _, _, _, _, _, _, _, _, _, _, _, _, _, _]) dM_digit_30 fM_208 (by first | exact z2_a | exact z2_1 | (rw [z2_n (by omega) (by omega)]; exact hT)) (by rfl) (by rfl) (by exact Nat.le_of_ble_eq_true rfl) (by rfl) ?_
    rw [z2_O]
    refine zs_aload_n (pc := 33) dM_digit_33 rfl ?_
    refine zs_get (pc := 34) dM_digit_34 fM_208 (by first | exact z2_a | exact z2_1 | (rw [z2_n (by omega) (by omega)]; exact hT)) (by rfl) ?_
    refine zn_if_eq (pc := 37) 44 dM_digit_37 rfl (by omega) (fun h9 => absurd h9 (by decide)) (fun _ => ?_)
    refine zs_iconst (pc := 40) dM_digit_40 zi_0 ?_
    refine zs_goto (pc := 41) 51 dM_digit_41 rfl ?_
    refine zs_istore_n (pc := 51) (ls2 := [_, _]) dM_digit_51 (Nat.le_of_ble_eq_true rfl) rfl ?_
    refine zs_aload_n (pc := 52) dM_digit_52 rfl ?_
    refine zs_dup (pc := 53) dM_digit_53 rfl ?_
    refine zs_get (pc := 54) dM_digit_54 fM_202 (by first | exact z2_a | exact z2_1 | (rw [z2_n (by omega) (by omega)]; exact hT)) (by rfl) ?_
    refine zs_aload_n (pc := 57) dM_digit_57 rfl ?_
    refine zs_get (pc := 58) dM_digit_58 fM_208 (by first | exact z2_a | exact z2_1 | (rw [z2_n (by omega) (by omega)]; exact hT)) (by rfl) ?_
    refine zn_if_eq (pc := 61) 68 dM_digit_61 rfl (by omega) (fun h9 => absurd h9 (by decide)) (fun _ => ?_)
    refine zs_iconst (pc := 64) dM_digit_64 zi_0 ?_
    refine zs_goto (pc := 65) 69 dM_digit_65 rfl ?_
    refine zn_iadd (pc := 69) dM_digit_69 ?_
    refine zs_put (pc := 70) (fs2 := [_, _, _, _, _, _, _, _, _, _, _, _, _, _, _, _, _, _, _, _, _]) dM_digit_70 fM_202 (by first | exact z2_a | exact z2_1 | (rw [z2_n (by omega) (by omega)]; exact hT)) (by rfl) (by rfl) (by exact Nat.le_of_ble_eq_true rfl) (by rfl) ?_
    rw [z2_O]
    refine zs_iload_n (pc := 73) dM_digit_73 rfl ?_
    exact zs_iret (pc := 74) dM_digit_74 rfl rfl (by omega) (by omega) (⟨rfl, rfl, rfl⟩)
  · refine zs_aload_n (pc := 0) dM_digit_0 rfl ?_
    refine zs_aload_n (pc := 1) dM_digit_1 rfl ?_
    refine zs_get (pc := 2) dM_digit_2 fM_208 (by first | exact z2_a | exact z2_1 | (rw [z2_n (by omega) (by omega)]; exact hT)) (by rfl) ?_
    refine zn_if_ne (pc := 5) 25 dM_digit_5 rfl (by omega) (fun h9 => absurd h9 (by decide)) (fun _ => ?_)
    refine zs_aload_n (pc := 8) dM_digit_8 rfl ?_
    refine zcV1_0 (pc := 9) (d2 := d - 1) (s_M_here_n hl hn e (by omega)) dM_digit_9 kM_212 mdM_here miM_here mvM_here rfl (by exact z2_a) rfl (Nat.le_of_ble_eq_true rfl) (by omega) (by omega) (by omega) ?_
    refine zs_i2l (pc := 12) dM_digit_12 ?_
    refine zs_ldc2 (pc := 13) (v := 48) dM_digit_13 (zt8 (i := 1) rfl) ?_
    refine zs_ldc2 (pc := 16) (v := 57) dM_digit_16 (zt8 (i := 2) rfl) ?_
    refine zcS1_3 (pc := 19) (d2 := d - 1) (s_M_inV_n hl (lo := 48) (hi := 57) (by decide) (by decide) (by decide)) dM_digit_19 kM_55 mdM_in msM_in rfl (Nat.le_of_ble_eq_true rfl) (by omega) (by omega) (by omega) ?_
    refine zs_if_ne (pc := 22) 29 dM_digit_22 rfl (fun h9 => absurd h9 (by decide)) (fun _ => ?_)
    refine zs_iconst (pc := 25) dM_digit_25 zi_1 ?_
    refine zs_goto (pc := 26) 30 dM_digit_26 rfl ?_
    refine zs_put (pc := 30) (fs2 := [_, _, _, _, _, _, _, _, _, _, _, _, _, _, _, _, _, _, _, _, _]) dM_digit_30 fM_208 (by first | exact z2_a | exact z2_1 | (rw [z2_n (by omega) (by omega)]; exact hT)) (by rfl) (by rfl) (by exact Nat.le_of_ble_eq_true rfl) (by rfl) ?_
    rw [z2_O]
    refine zs_aload_n (pc := 33) dM_digit_33 rfl ?_
    refine zs_get (pc := 34) dM_digit_34 fM_208 (by first | exact z2_a | exact z2_1 | (rw [z2_n (by omega) (by omega)]; exact hT)) (by rfl) ?_
    refine zn_if_eq (pc := 37) 44 dM_digit_37 rfl (by omega) (fun h9 => absurd h9 (by decide)) (fun _ => ?_)
    refine zs_iconst (pc := 40) dM_digit_40 zi_0 ?_
    refine zs_goto (pc := 41) 51 dM_digit_41 rfl ?_
    refine zs_istore_n (pc := 51) (ls2 := [_, _]) dM_digit_51 (Nat.le_of_ble_eq_true rfl) rfl ?_
    refine zs_aload_n (pc := 52) dM_digit_52 rfl ?_
    refine zs_dup (pc := 53) dM_digit_53 rfl ?_
    refine zs_get (pc := 54) dM_digit_54 fM_202 (by first | exact z2_a | exact z2_1 | (rw [z2_n (by omega) (by omega)]; exact hT)) (by rfl) ?_
    refine zs_aload_n (pc := 57) dM_digit_57 rfl ?_
    refine zs_get (pc := 58) dM_digit_58 fM_208 (by first | exact z2_a | exact z2_1 | (rw [z2_n (by omega) (by omega)]; exact hT)) (by rfl) ?_
    refine zn_if_eq (pc := 61) 68 dM_digit_61 rfl (by omega) (fun h9 => absurd h9 (by decide)) (fun _ => ?_)
    refine zs_iconst (pc := 64) dM_digit_64 zi_0 ?_
    refine zs_goto (pc := 65) 69 dM_digit_65 rfl ?_
    refine zn_iadd (pc := 69) dM_digit_69 ?_
    refine zs_put (pc := 70) (fs2 := [_, _, _, _, _, _, _, _, _, _, _, _, _, _, _, _, _, _, _, _, _]) dM_digit_70 fM_202 (by first | exact z2_a | exact z2_1 | (rw [z2_n (by omega) (by omega)]; exact hT)) (by rfl) (by rfl) (by exact Nat.le_of_ble_eq_true rfl) (by rfl) ?_
    rw [z2_O]
    refine zs_iload_n (pc := 73) dM_digit_73 rfl ?_
    exact zs_iret (pc := 74) dM_digit_74 rfl rfl (by omega) (by omega) (⟨rfl, rfl, rfl⟩)
theorem s_M_digit_w {Γ : zG} {l : Launch} (hl : l.stackTraces = false) {d : Nat} {h : zH} {n a : Nat} {g : Nat → Nat} {s3 s5 s6 s7 s8 s10 s12 s16 s18 s20 : Int32} {po : Nat} : zC Γ l d mM_digit [.ref a] (z2 h a (zAr 0 246 (g)) (zMo a s3 s5 s6 s7 s8 s10 s12 s16 (nI po) s18 (nI 1) s20)) n 0 0 (zR (some (.int (nI 0))) (z2 h a (zAr 0 246 (g)) (zMo a s3 s5 s6 s7 s8 s10 s12 s16 (nI po) s18 (nI 1) s20)) n) := by
  refine zC_of (ls := [some (.ref a), none]) hl (by decide +kernel) rfl (Nat.le_of_ble_eq_true rfl) rfl ?_
  refine zs_aload_n (pc := 0) dM_digit_0 rfl ?_
  refine zs_aload_n (pc := 1) dM_digit_1 rfl ?_
  refine zs_get (pc := 2) dM_digit_2 fM_208 (by first | exact z2_a | exact z2_1 | (rw [z2_n (by omega) (by omega)]; exact hT)) (by rfl) ?_
  refine zn_if_ne (pc := 5) 25 dM_digit_5 rfl (by omega) (fun _ => ?_) (fun h9 => absurd h9 (by decide))
  refine zs_iconst (pc := 25) dM_digit_25 zi_1 ?_
  refine zs_goto (pc := 26) 30 dM_digit_26 rfl ?_
  refine zs_put (pc := 30) (fs2 := [_, _, _, _, _, _, _, _, _, _, _, _, _, _, _, _, _, _, _, _, _]) dM_digit_30 fM_208 (by first | exact z2_a | exact z2_1 | (rw [z2_n (by omega) (by omega)]; exact hT)) (by rfl) (by rfl) (by exact Nat.le_of_ble_eq_true rfl) (by rfl) ?_
  rw [z2_O]
  refine zs_aload_n (pc := 33) dM_digit_33 rfl ?_
  refine zs_get (pc := 34) dM_digit_34 fM_208 (by first | exact z2_a | exact z2_1 | (rw [z2_n (by omega) (by omega)]; exact hT)) (by rfl) ?_
  refine zn_if_eq (pc := 37) 44 dM_digit_37 rfl (by omega) (fun h9 => absurd h9 (by decide)) (fun _ => ?_)
  refine zs_iconst (pc := 40) dM_digit_40 zi_0 ?_
  refine zs_goto (pc := 41) 51 dM_digit_41 rfl ?_
  refine zs_istore_n (pc := 51) (ls2 := [_, _]) dM_digit_51 (Nat.le_of_ble_eq_true rfl) rfl ?_
  refine zs_aload_n (pc := 52) dM_digit_52 rfl ?_
  refine zs_dup (pc := 53) dM_digit_53 rfl ?_
  refine zs_get (pc := 54) dM_digit_54 fM_202 (by first | exact z2_a | exact z2_1 | (rw [z2_n (by omega) (by omega)]; exact hT)) (by rfl) ?_
  refine zs_aload_n (pc := 57) dM_digit_57 rfl ?_
  refine zs_get (pc := 58) dM_digit_58 fM_208 (by first | exact z2_a | exact z2_1 | (rw [z2_n (by omega) (by omega)]; exact hT)) (by rfl) ?_
  refine zn_if_eq (pc := 61) 68 dM_digit_61 rfl (by omega) (fun h9 => absurd h9 (by decide)) (fun _ => ?_)
  refine zs_iconst (pc := 64) dM_digit_64 zi_0 ?_
  refine zs_goto (pc := 65) 69 dM_digit_65 rfl ?_
  refine zn_iadd (pc := 69) dM_digit_69 ?_
  refine zs_put (pc := 70) (fs2 := [_, _, _, _, _, _, _, _, _, _, _, _, _, _, _, _, _, _, _, _, _]) dM_digit_70 fM_202 (by first | exact z2_a | exact z2_1 | (rw [z2_n (by omega) (by omega)]; exact hT)) (by rfl) (by rfl) (by exact Nat.le_of_ble_eq_true rfl) (by rfl) ?_
  rw [z2_O]
  refine zs_iload_n (pc := 73) dM_digit_73 rfl ?_
  exact zs_iret (pc := 74) dM_digit_74 rfl rfl (by omega) (by omega) (⟨rfl, rfl, rfl⟩)
theorem lp_M_number {Γ : zG} {l : Launch} (hl : l.stackTraces = false) {d : Nat} (hd : 2 ≤ d) {h : zH} {n a : Nat} {g : Nat → Nat} {s3 s5 s6 s7 s8 s10 s12 s16 : Int32} {T : Nat → Nat} {np : Nat} (hT : h (a + 5) = some (zAr 0 60 T)) (hn : np ≤ 60) (hc : ∀ i, i < np → T i < 128) : ∀ f c po v, c + f = 3 → 1 ≤ c → po ≤ np → Z Γ l mM_number d 0 0 (zFin Γ (zR (some (.int (nI (zrd T np f po c v).2.2))) (z2 h a (zAr 0 246 (g)) (zMo a s3 s5 s6 s7 s8 s10 s12 s16 (nI (zrd T np f po c v).1) (nI np) (nI 0) (nI (zrd T np f po c v).2.1))) n) 0 0) 10 [some (.ref a), some (.int (nI v))] [] (z2 h a (zAr 0 246 (g)) (zMo a s3 s5 s6 s7 s8 s10 s12 s16 (nI po) (nI np) (nI 0) (nI c))) n 0 0 := by
  intro f
  induction f with
  | zero =>
    intro c po v hcf hc1 hpo
    refine zs_aload_n (pc := 10) dM_number_10 rfl ?_
    refine zs_get (pc := 11) dM_number_11 fM_222 (by first | exact z2_a | exact z2_1 | (rw [z2_n (by omega) (by omega)]; exact hT)) (by rfl) ?_
    refine zs_iconst (pc := 14) dM_number_14 zi_3 ?_
    refine zn_icmp_ge (pc := 15) 65 dM_number_15 rfl (by omega) (by omega) (fun _ => ?_) (fun h9 => absurd h9 (by omega))
    refine zs_iload_n (pc := 65) dM_number_65 rfl ?_
    exact zs_iret (pc := 66) dM_number_66 rfl rfl (by omega) (by omega) (⟨rfl, rfl, rfl⟩)
  | succ f ih =>
    intro c po v hcf hc1 hpo
    unfold zrd
    by_cases e : po < np ∧ 48 ≤ T po ∧ T po ≤ 57
    · have hv : zV (nI (T po)) 48 57 = true := decide_eq_true (by rw [nI_toInt (by omega)]; omega)
      have hz := ih (c + 1) (po + 1) (10 * v + (T po - 48)) (by omega) (by omega) (by omega)
      rw [if_pos e]
      refine zs_aload_n (pc := 10) dM_number_10 rfl ?_
      refine zs_get (pc := 11) dM_number_11 fM_222 (by first | exact z2_a | exact z2_1 | (rw [z2_n (by omega) (by omega)]; exact hT)) (by rfl) ?_
      refine zs_iconst (pc := 14) dM_number_14 zi_3 ?_
      refine zn_icmp_ge (pc := 15) 65 dM_number_15 rfl (by omega) (by omega) (fun h9 => absurd h9 (by omega)) (fun _ => ?_)
      refine zs_aload_n (pc := 18) dM_number_18 rfl ?_
      refine zs_get (pc := 19) dM_number_19 fM_208 (by first | exact z2_a | exact z2_1 | (rw [z2_n (by omega) (by omega)]; exact hT)) (by rfl) ?_
      refine zn_if_ne (pc := 22) 65 dM_number_22 rfl (by omega) (fun h9 => absurd h9 (by decide)) (fun _ => ?_)
      refine zs_aload_n (pc := 25) dM_number_25 rfl ?_
      refine zcV1_0 (pc := 26) (d2 := d - 1) (s_M_here_y hl hT hn e.1) dM_number_26 kM_212 mdM_here miM_here mvM_here rfl (by exact z2_a) rfl (Nat.le_of_ble_eq_true rfl) (by omega) (by omega) (by omega) ?_
      refine zs_i2l (pc := 29) dM_number_29 ?_
      refine zs_ldc2 (pc := 30) (v := 48) dM_number_30 (zt8 (i := 1) rfl) ?_
      refine zs_ldc2 (pc := 33) (v := 57) dM_number_33 (zt8 (i := 2) rfl) ?_
      refine zcS1_3 (pc := 36) (d2 := d - 1) (s_M_inV_y hl (lo := 48) (hi := 57) (by decide) (by decide) hv) dM_number_36 kM_55 mdM_in msM_in rfl (Nat.le_of_ble_eq_true rfl) (by omega) (by omega) (by omega) ?_
      refine zs_if_eq (pc := 39) 65 dM_number_39 rfl (fun h9 => absurd h9 (by decide)) (fun _ => ?_)
      refine zs_bipush (pc := 42) dM_number_42 (zi_b 10 (by decide)) ?_
      refine zs_iload_n (pc := 44) dM_number_44 rfl ?_
      refine zn_imul (pc := 45) dM_number_45 ?_
      refine zs_aload_n (pc := 46) dM_number_46 rfl ?_
      refine zcV1_0 (pc := 47) (d2 := d - 1) (s_M_digit_y hl (by omega) hT hn e) dM_number_47 kM_219 mdM_digit miM_digit mvM_digit rfl (by exact z2_a) rfl (Nat.le_of_ble_eq_true rfl) (by omega) (by omega) (by omega) ?_
      refine zn_iadd (pc := 50) dM_number_50 ?_
      refine zs_istore_n (pc := 51) (ls2 := [_, _]) dM_number_51 (Nat.le_of_ble_eq_true rfl) rfl ?_
      refine zs_aload_n (pc := 52) dM_number_52 rfl ?_
      refine zs_dup (pc := 53) dM_number_53 rfl ?_
      refine zs_get (pc := 54) dM_number_54 fM_222 (by first | exact z2_a | exact z2_1 | (rw [z2_n (by omega) (by omega)]; exact hT)) (by rfl) ?_
      refine zs_iconst (pc := 57) dM_number_57 zi_1 ?_
      refine zn_iadd (pc := 58) dM_number_58 ?_
      refine zs_put (pc := 59) (fs2 := [_, _, _, _, _, _, _, _, _, _, _, _, _, _, _, _, _, _, _, _, _]) dM_number_59 fM_222 (by first | exact z2_a | exact z2_1 | (rw [z2_n (by omega) (by omega)]; exact hT)) (by rfl) (by rfl) (by exact Nat.le_of_ble_eq_true rfl) (by rfl) ?_
      rw [z2_O]
      refine zs_goto (pc := 62) 10 dM_number_62 rfl ?_
      exact hz
    · rw [if_neg e]
      by_cases e2 : po < np
      · have hc0 := hc po e2
        have hv : zV (nI (T po)) 48 57 = false := decide_eq_false (by rw [nI_toInt (by omega)]; omega)
        refine zs_aload_n (pc := 10) dM_number_10 rfl ?_
        refine zs_get (pc := 11) dM_number_11 fM_222 (by first | exact z2_a | exact z2_1 | (rw [z2_n (by omega) (by omega)]; exact hT)) (by rfl) ?_
        refine zs_iconst (pc := 14) dM_number_14 zi_3 ?_
        refine zn_icmp_ge (pc := 15) 65 dM_number_15 rfl (by omega) (by omega) (fun h9 => absurd h9 (by omega)) (fun _ => ?_)
        refine zs_aload_n (pc := 18) dM_number_18 rfl ?_
        refine zs_get (pc := 19) dM_number_19 fM_208 (by first | exact z2_a | exact z2_1 | (rw [z2_n (by omega) (by omega)]; exact hT)) (by rfl) ?_
        refine zn_if_ne (pc := 22) 65 dM_number_22 rfl (by omega) (fun h9 => absurd h9 (by decide)) (fun _ => ?_)
        refine zs_aload_n (pc := 25) dM_number_25 rfl ?_
        refine zcV1_0 (pc := 26) (d2 := d - 1) (s_M_here_y hl hT hn e2) dM_number_26 kM_212 mdM_here miM_here mvM_here rfl (by exact z2_a) rfl (Nat.le_of_ble_eq_true rfl) (by omega) (by omega) (by omega) ?_
        refine zs_i2l (pc := 29) dM_number_29 ?_
        refine zs_ldc2 (pc := 30) (v := 48) dM_number_30 (zt8 (i := 1) rfl) ?_
        refine zs_ldc2 (pc := 33) (v := 57) dM_number_33 (zt8 (i := 2) rfl) ?_
        refine zcS1_3 (pc := 36) (d2 := d - 1) (s_M_inV_n hl (lo := 48) (hi := 57) (by decide) (by decide) hv) dM_number_36 kM_55 mdM_in msM_in rfl (Nat.le_of_ble_eq_true rfl) (by omega) (by omega) (by omega) ?_
        refine zs_if_eq (pc := 39) 65 dM_number_39 rfl (fun _ => ?_) (fun h9 => absurd h9 (by decide))
        refine zs_iload_n (pc := 65) dM_number_65 rfl ?_
        exact zs_iret (pc := 66) dM_number_66 rfl rfl (by omega) (by omega) (⟨rfl, rfl, rfl⟩)
      · refine zs_aload_n (pc := 10) dM_number_10 rfl ?_
        refine zs_get (pc := 11) dM_number_11 fM_222 (by first | exact z2_a | exact z2_1 | (rw [z2_n (by omega) (by omega)]; exact hT)) (by rfl) ?_
        refine zs_iconst (pc := 14) dM_number_14 zi_3 ?_
        refine zn_icmp_ge (pc := 15) 65 dM_number_15 rfl (by omega) (by omega) (fun h9 => absurd h9 (by omega)) (fun _ => ?_)
        refine zs_aload_n (pc := 18) dM_number_18 rfl ?_
        refine zs_get (pc := 19) dM_number_19 fM_208 (by first | exact z2_a | exact z2_1 | (rw [z2_n (by omega) (by omega)]; exact hT)) (by rfl) ?_
        refine zn_if_ne (pc := 22) 65 dM_number_22 rfl (by omega) (fun h9 => absurd h9 (by decide)) (fun _ => ?_)
        refine zs_aload_n (pc := 25) dM_number_25 rfl ?_
        refine zcV1_0 (pc := 26) (d2 := d - 1) (s_M_here_n hl hn e2 (by omega)) dM_number_26 kM_212 mdM_here miM_here mvM_here rfl (by exact z2_a) rfl (Nat.le_of_ble_eq_true rfl) (by omega) (by omega) (by omega) ?_
        refine zs_i2l (pc := 29) dM_number_29 ?_
        refine zs_ldc2 (pc := 30) (v := 48) dM_number_30 (zt8 (i := 1) rfl) ?_
        refine zs_ldc2 (pc := 33) (v := 57) dM_number_33 (zt8 (i := 2) rfl) ?_
        refine zcS1_3 (pc := 36) (d2 := d - 1) (s_M_inV_n hl (lo := 48) (hi := 57) (by decide) (by decide) (by decide)) dM_number_36 kM_55 mdM_in msM_in rfl (Nat.le_of_ble_eq_true rfl) (by omega) (by omega) (by omega) ?_
        refine zs_if_eq (pc := 39) 65 dM_number_39 rfl (fun _ => ?_) (fun h9 => absurd h9 (by decide))
        refine zs_iload_n (pc := 65) dM_number_65 rfl ?_
        exact zs_iret (pc := 66) dM_number_66 rfl rfl (by omega) (by omega) (⟨rfl, rfl, rfl⟩)
/-- what a number's reading leaves: whether it was wrong, and how many digits are told -/
def ywr (b : Bool) : Nat := if b = true then 0 else 1
theorem zrd_0 {T : Nat → Nat} {np po : Nat} : zrd T np 3 po 0 0 = if po < np ∧ 48 ≤ T po ∧ T po ≤ 57 then zrd T np 2 (po + 1) 1 (T po - 48) else (po, 0, 0) := by
  show (if _ then zrd T np 2 (po + 1) (0 + 1) (10 * 0 + (T po - 48)) else _) = _
  rw [show 10 * 0 + (T po - 48) = T po - 48 by omega]
theorem zrd_c {T : Nat → Nat} {np po c v : Nat} : ∀ f, c ≤ (zrd T np f po c v).2.1 := by
  intro f
  induction f generalizing po c v with
  | zero => exact Nat.le_refl _
  | succ f ih =>
    unfold zrd
    split
    · exact Nat.le_trans (Nat.le_succ c) ih
    · exact Nat.le_refl _
theorem s_M_number {Γ : zG} {l : Launch} (hl : l.stackTraces = false) {d : Nat} (hd : 2 ≤ d) {h : zH} {n a : Nat} {g : Nat → Nat} {s3 s5 s6 s7 s8 s10 s12 s16 s20 : Int32} {T : Nat → Nat} {po np : Nat} (hT : h (a + 5) = some (zAr 0 60 T)) (hn : np ≤ 60) (hc : ∀ i, i < np → T i < 128) (hpo : po ≤ np) : zC Γ l d mM_number [.ref a] (z2 h a (zAr 0 246 (g)) (zMo a s3 s5 s6 s7 s8 s10 s12 s16 (nI po) (nI np) (nI 0) s20)) n 0 0 (zR (some (.int (nI (zrd T np 3 po 0 0).2.2))) (z2 h a (zAr 0 246 (g)) (zMo a s3 s5 s6 s7 s8 s10 s12 s16 (nI (zrd T np 3 po 0 0).1) (nI np) (nI (ywr (decide (0 < (zrd T np 3 po 0 0).2.1)))) (nI (max 1 (zrd T np 3 po 0 0).2.1)))) n) := by
  rw [zrd_0]
  refine zC_of (ls := [some (.ref a), none]) hl (by decide +kernel) rfl (Nat.le_of_ble_eq_true rfl) rfl ?_
  by_cases e : po < np ∧ 48 ≤ T po ∧ T po ≤ 57
  · rw [if_pos e]
    have h1 := zrd_c (T := T) (np := np) (po := po + 1) (c := 1) (v := T po - 48) 2
    have hz := lp_M_number (Γ := Γ) (l := l) (h := h) (n := n) (a := a) (g := g) (s3 := s3) (s5 := s5) (s6 := s6) (s7 := s7) (s8 := s8) (s10 := s10) (s12 := s12) (s16 := s16) hl (d := d) hd hT hn hc 2 1 (po + 1) (T po - 48) rfl (Nat.le_refl _) (by omega)
    rw [decide_eq_true (by omega : 0 < (zrd T np 2 (po + 1) 1 (T po - 48)).2.1), Nat.max_eq_right h1]
    refine zs_aload_n (pc := 0) dM_number_0 rfl ?_
    refine zcV1_0 (pc := 1) (d2 := d - 1) (s_M_digit_y hl (by omega) hT hn e) dM_number_1 kM_219 mdM_digit miM_digit mvM_digit rfl (by exact z2_a) rfl (Nat.le_of_ble_eq_true rfl) (by omega) (by omega) (by omega) ?_
    refine zs_istore_n (pc := 4) (ls2 := [_, _]) dM_number_4 (Nat.le_of_ble_eq_true rfl) rfl ?_
    refine zs_aload_n (pc := 5) dM_number_5 rfl ?_
    refine zs_iconst (pc := 6) dM_number_6 zi_1 ?_
    refine zs_put (pc := 7) (fs2 := [_, _, _, _, _, _, _, _, _, _, _, _, _, _, _, _, _, _, _, _, _]) dM_number_7 fM_222 (by first | exact z2_a | exact z2_1 | (rw [z2_n (by omega) (by omega)]; exact hT)) (by rfl) (by rfl) (by exact Nat.le_of_ble_eq_true rfl) (by rfl) ?_
    rw [z2_O]
    exact hz
  · rw [if_neg e]
    refine zs_aload_n (pc := 0) dM_number_0 rfl ?_
    refine zcV1_0 (pc := 1) (d2 := d - 1) (s_M_digit_n hl (by omega) hT hn hc hpo e) dM_number_1 kM_219 mdM_digit miM_digit mvM_digit rfl (by exact z2_a) rfl (Nat.le_of_ble_eq_true rfl) (by omega) (by omega) (by omega) ?_
    refine zs_istore_n (pc := 4) (ls2 := [_, _]) dM_number_4 (Nat.le_of_ble_eq_true rfl) rfl ?_
    refine zs_aload_n (pc := 5) dM_number_5 rfl ?_
    refine zs_iconst (pc := 6) dM_number_6 zi_1 ?_
    refine zs_put (pc := 7) (fs2 := [_, _, _, _, _, _, _, _, _, _, _, _, _, _, _, _, _, _, _, _, _]) dM_number_7 fM_222 (by first | exact z2_a | exact z2_1 | (rw [z2_n (by omega) (by omega)]; exact hT)) (by rfl) (by rfl) (by exact Nat.le_of_ble_eq_true rfl) (by rfl) ?_
    rw [z2_O]
    refine zs_aload_n (pc := 10) dM_number_10 rfl ?_
    refine zs_get (pc := 11) dM_number_11 fM_222 (by first | exact z2_a | exact z2_1 | (rw [z2_n (by omega) (by omega)]; exact hT)) (by rfl) ?_
    refine zs_iconst (pc := 14) dM_number_14 zi_3 ?_
    refine zn_icmp_ge (pc := 15) 65 dM_number_15 rfl (by omega) (by omega) (fun h9 => absurd h9 (by decide)) (fun _ => ?_)
    refine zs_aload_n (pc := 18) dM_number_18 rfl ?_
    refine zs_get (pc := 19) dM_number_19 fM_208 (by first | exact z2_a | exact z2_1 | (rw [z2_n (by omega) (by omega)]; exact hT)) (by rfl) ?_
    refine zn_if_ne (pc := 22) 65 dM_number_22 rfl (by omega) (fun _ => ?_) (fun h9 => absurd h9 (by decide))
    refine zs_iload_n (pc := 65) dM_number_65 rfl ?_
    exact zs_iret (pc := 66) dM_number_66 rfl rfl (by omega) (by omega) (⟨rfl, rfl, rfl⟩)
theorem s_M_number_w {Γ : zG} {l : Launch} (hl : l.stackTraces = false) {d : Nat} (hd : 1 ≤ d) {h : zH} {n a : Nat} {g : Nat → Nat} {s3 s5 s6 s7 s8 s10 s12 s16 s18 s20 : Int32} {po : Nat} : zC Γ l d mM_number [.ref a] (z2 h a (zAr 0 246 (g)) (zMo a s3 s5 s6 s7 s8 s10 s12 s16 (nI po) s18 (nI 1) s20)) n 0 0 (zR (some (.int (nI 0))) (z2 h a (zAr 0 246 (g)) (zMo a s3 s5 s6 s7 s8 s10 s12 s16 (nI po) s18 (nI 1) (nI 1))) n) := by
  refine zC_of (ls := [some (.ref a), none]) hl (by decide +kernel) rfl (Nat.le_of_ble_eq_true rfl) rfl ?_
  refine zs_aload_n (pc := 0) dM_number_0 rfl ?_
  refine zcV1_0 (pc := 1) (d2 := d - 1) (s_M_digit_w hl) dM_number_1 kM_219 mdM_digit miM_digit mvM_digit rfl (by exact z2_a) rfl (Nat.le_of_ble_eq_true rfl) (by omega) (by omega) (by omega) ?_
  refine zs_istore_n (pc := 4) (ls2 := [_, _]) dM_number_4 (Nat.le_of_ble_eq_true rfl) rfl ?_
  refine zs_aload_n (pc := 5) dM_number_5 rfl ?_
  refine zs_iconst (pc := 6) dM_number_6 zi_1 ?_
  refine zs_put (pc := 7) (fs2 := [_, _, _, _, _, _, _, _, _, _, _, _, _, _, _, _, _, _, _, _, _]) dM_number_7 fM_222 (by first | exact z2_a | exact z2_1 | (rw [z2_n (by omega) (by omega)]; exact hT)) (by rfl) (by rfl) (by exact Nat.le_of_ble_eq_true rfl) (by rfl) ?_
  rw [z2_O]
  refine zs_aload_n (pc := 10) dM_number_10 rfl ?_
  refine zs_get (pc := 11) dM_number_11 fM_222 (by first | exact z2_a | exact z2_1 | (rw [z2_n (by omega) (by omega)]; exact hT)) (by rfl) ?_
  refine zs_iconst (pc := 14) dM_number_14 zi_3 ?_
  refine zn_icmp_ge (pc := 15) 65 dM_number_15 rfl (by omega) (by omega) (fun h9 => absurd h9 (by decide)) (fun _ => ?_)
  refine zs_aload_n (pc := 18) dM_number_18 rfl ?_
  refine zs_get (pc := 19) dM_number_19 fM_208 (by first | exact z2_a | exact z2_1 | (rw [z2_n (by omega) (by omega)]; exact hT)) (by rfl) ?_
  refine zn_if_ne (pc := 22) 65 dM_number_22 rfl (by omega) (fun _ => ?_) (fun h9 => absurd h9 (by decide))
  refine zs_iload_n (pc := 65) dM_number_65 rfl ?_
  exact zs_iret (pc := 66) dM_number_66 rfl rfl (by omega) (by omega) (⟨rfl, rfl, rfl⟩)
theorem s_M_numberBehind {Γ : zG} {l : Launch} (hl : l.stackTraces = false) {d : Nat} (hd : 3 ≤ d) {h : zH} {n a : Nat} {g : Nat → Nat} {s3 s5 s6 s7 s8 s10 s12 s16 s20 : Int32} {T : Nat → Nat} {po np : Nat} (hT : h (a + 5) = some (zAr 0 60 T)) (hn : np ≤ 60) (hc : ∀ i, i < np → T i < 128) (hpo : po ≤ np) : zC Γ l d mM_numberBehind [.ref a] (z2 h a (zAr 0 246 (g)) (zMo a s3 s5 s6 s7 s8 s10 s12 s16 (nI po) (nI np) (nI 0) s20)) n 0 0 (zR (some (.int (nI (zrn T np 3 po).2.2.2))) (z2 h a (zAr 0 246 (g)) (zMo a s3 s5 s6 s7 s8 s10 s12 s16 (nI (zrn T np 3 po).2.1) (nI np) (nI (ywr (zrn T np 3 po).1)) (nI (max 1 (zrn T np 3 po).2.2.1)))) n) := by
  unfold zrn
  refine zC_of (ls := [some (.ref a)]) hl (by decide +kernel) rfl (Nat.le_of_ble_eq_true rfl) rfl ?_
  by_cases e : po < np ∧ T po = 32
  · rw [if_pos e]
    refine zs_aload_n (pc := 0) dM_numberBehind_0 rfl ?_
    refine zs_bipush (pc := 1) dM_numberBehind_1 (zi_b 32 (by decide)) ?_
    refine zcV0_1 (pc := 3) (d2 := d - 1) (s_M_expects_y hl (by omega) hT hn hc e.1 e.2) dM_numberBehind_3 kM_225 mdM_expects miM_expects mvM_expects rfl (by exact z2_a) rfl (Nat.le_of_ble_eq_true rfl) (by omega) (by omega) (by omega) ?_
    refine zs_aload_n (pc := 6) dM_numberBehind_6 rfl ?_
    refine zcV1_0 (pc := 7) (d2 := d - 1) (s_M_number hl (by omega) hT hn hc (by omega)) dM_numberBehind_7 kM_228 mdM_number miM_number mvM_number rfl (by exact z2_a) rfl (Nat.le_of_ble_eq_true rfl) (by omega) (by omega) (by omega) ?_
    exact zs_iret (pc := 10) dM_numberBehind_10 rfl rfl (by omega) (by omega) (⟨rfl, rfl, rfl⟩)
  · rw [if_neg e]
    refine zs_aload_n (pc := 0) dM_numberBehind_0 rfl ?_
    refine zs_bipush (pc := 1) dM_numberBehind_1 (zi_b 32 (by decide)) ?_
    refine zcV0_1 (pc := 3) (d2 := d - 1) (s_M_expects_n hl (by omega) hT hn hc hpo (by decide) e) dM_numberBehind_3 kM_225 mdM_expects miM_expects mvM_expects rfl (by exact z2_a) rfl (Nat.le_of_ble_eq_true rfl) (by omega) (by omega) (by omega) ?_
    refine zs_aload_n (pc := 6) dM_numberBehind_6 rfl ?_
    refine zcV1_0 (pc := 7) (d2 := d - 1) (s_M_number_w hl (by omega)) dM_numberBehind_7 kM_228 mdM_number miM_number mvM_number rfl (by exact z2_a) rfl (Nat.le_of_ble_eq_true rfl) (by omega) (by omega) (by omega) ?_
    exact zs_iret (pc := 10) dM_numberBehind_10 rfl rfl (by omega) (by omega) (⟨rfl, rfl, rfl⟩)
theorem s_M_numberBehind_w {Γ : zG} {l : Launch} (hl : l.stackTraces = false) {d : Nat} (hd : 2 ≤ d) {h : zH} {n a : Nat} {g : Nat → Nat} {s3 s5 s6 s7 s8 s10 s12 s16 s18 s20 : Int32} {po : Nat} : zC Γ l d mM_numberBehind [.ref a] (z2 h a (zAr 0 246 (g)) (zMo a s3 s5 s6 s7 s8 s10 s12 s16 (nI po) s18 (nI 1) s20)) n 0 0 (zR (some (.int (nI 0))) (z2 h a (zAr 0 246 (g)) (zMo a s3 s5 s6 s7 s8 s10 s12 s16 (nI po) s18 (nI 1) (nI 1))) n) := by
  refine zC_of (ls := [some (.ref a)]) hl (by decide +kernel) rfl (Nat.le_of_ble_eq_true rfl) rfl ?_
  refine zs_aload_n (pc := 0) dM_numberBehind_0 rfl ?_
  refine zs_bipush (pc := 1) dM_numberBehind_1 (zi_b 32 (by decide)) ?_
  refine zcV0_1 (pc := 3) (d2 := d - 1) (s_M_expects_w hl) dM_numberBehind_3 kM_225 mdM_expects miM_expects mvM_expects rfl (by exact z2_a) rfl (Nat.le_of_ble_eq_true rfl) (by omega) (by omega) (by omega) ?_
  refine zs_aload_n (pc := 6) dM_numberBehind_6 rfl ?_
  refine zcV1_0 (pc := 7) (d2 := d - 1) (s_M_number_w hl (by omega)) dM_numberBehind_7 kM_228 mdM_number miM_number mvM_number rfl (by exact z2_a) rfl (Nat.le_of_ble_eq_true rfl) (by omega) (by omega) (by omega) ?_
  exact zs_iret (pc := 10) dM_numberBehind_10 rfl rfl (by omega) (by omega) (⟨rfl, rfl, rfl⟩)

