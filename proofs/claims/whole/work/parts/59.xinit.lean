/-! new objects -/
theorem s_T_init {Γ : zG} {l : Launch} (hl : l.stackTraces = false) {d : Nat} {h : zH} {t : Nat} (h0 : h t = some (.inr (6, [.null, .null]))) : zC Γ l d mT_init [.ref t] h (t + 1) 2 2222 (fun o h2 n2 => o = .inl none ∧ n2 = t + 3 ∧ zfr t 3 h h2 ∧ TH h2 t (fun _ => 0) (fun _ => 0)) := by
  refine zC_of (ls := [some (.ref t)]) hl (by decide +kernel) rfl (Nat.le_of_ble_eq_true rfl) rfl ?_
  refine zs_aload_n (pc := 0) dT_init_0 rfl ?_
  refine zs_objInit (pc := 1) dT_init_1 kT_5 (Nat.le_of_ble_eq_true rfl) ?_
  refine zs_aload_n (pc := 4) dT_init_4 rfl ?_
  refine zs_sipush (pc := 5) dT_init_5 (zi_s 1111 (by decide)) ?_
  refine zs_newa (pc := 8) (kd := 0) (N := 1111) (a0 := (1111, .inl (fun i => nI ((fun _ => 0) i)))) dT_init_8 (by decide) rfl (by decide) (zt1 (i := 84) rfl) (fun cA => rfl) (by decide) (by decide) (by decide) (by omega) (by omega) ?_
  refine zs_putF (pc := 10) (fs2 := [_, _]) dT_init_10 rfl fT_11 ⟨_, _, rfl⟩ (by first | exact h0 | exact zu_s | (rw [zu_n (by omega)]; exact h0)) (by rfl) (by rfl) (by exact Nat.le_of_ble_eq_true rfl) (by rfl) ?_
  refine zs_aload_n (pc := 13) dT_init_13 rfl ?_
  refine zs_sipush (pc := 14) dT_init_14 (zi_s 1111 (by decide)) ?_
  refine zs_newa (pc := 17) (kd := 0) (N := 1111) (a0 := (1111, .inl (fun i => nI ((fun _ => 0) i)))) dT_init_17 (by decide) rfl (by decide) (zt1 (i := 84) rfl) (fun cA => rfl) (by decide) (by decide) (by decide) (by omega) (by omega) ?_
  refine zs_putF (pc := 19) (fs2 := [_, _]) dT_init_19 rfl fT_15 ⟨_, _, rfl⟩ (by first | exact zu_s | (rw [zu_n (by omega)]; exact zu_s)) (by rfl) (by rfl) (by exact Nat.le_of_ble_eq_true rfl) (by rfl) ?_
  exact zs_vret (pc := 22) dT_init_22 rfl (by omega) (by omega) (⟨rfl, rfl, fun q hq => by rw [zu_n (by omega), zu_n (by omega), zu_n (by omega), zu_n (by omega)], zu_s, by rw [zu_n (by omega), zu_n (by omega), zu_n (by omega)]; exact zu_s, by rw [zu_n (by omega)]; exact zu_s⟩)
theorem s_R_init {Γ : zG} {l : Launch} (hl : l.stackTraces = false) {d : Nat} {h : zH} {t : Nat} (h0 : h t = some (.inr (5, [.null, .null, .int (nI 0)]))) : zC Γ l d mR_init [.ref t] h (t + 1) 2 40 (fun o h2 n2 => o = .inl none ∧ n2 = t + 3 ∧ zfr t 3 h h2 ∧ RH h2 t (fun _ => 0) (fun _ => nI 0) 0) := by
  refine zC_of (ls := [some (.ref t)]) hl (by decide +kernel) rfl (Nat.le_of_ble_eq_true rfl) rfl ?_
  refine zs_aload_n (pc := 0) dR_init_0 rfl ?_
  refine zs_objInit (pc := 1) dR_init_1 kR_3 (Nat.le_of_ble_eq_true rfl) ?_
  refine zs_aload_n (pc := 4) dR_init_4 rfl ?_
  refine zs_bipush (pc := 5) dR_init_5 (zi_b 20 (by decide)) ?_
  refine zs_newa (pc := 7) (kd := 0) (N := 20) (a0 := (20, .inl (fun i => nI ((fun _ => 0) i)))) dR_init_7 (by decide) rfl (by decide) (zt1 (i := 84) rfl) (fun cA => rfl) (by decide) (by decide) (by decide) (by omega) (by omega) ?_
  refine zs_putF (pc := 9) (fs2 := [_, _, _]) dR_init_9 rfl fR_9 ⟨_, _, rfl⟩ (by first | exact h0 | exact zu_s | (rw [zu_n (by omega)]; exact h0)) (by rfl) (by rfl) (by exact Nat.le_of_ble_eq_true rfl) (by rfl) ?_
  refine zs_aload_n (pc := 12) dR_init_12 rfl ?_
  refine zs_bipush (pc := 13) dR_init_13 (zi_b 20 (by decide)) ?_
  refine zs_newa (pc := 15) (kd := 0) (N := 20) (a0 := (20, .inl (fun i => nI ((fun _ => 0) i)))) dR_init_15 (by decide) rfl (by decide) (zt1 (i := 84) rfl) (fun cA => rfl) (by decide) (by decide) (by decide) (by omega) (by omega) ?_
  refine zs_putF (pc := 17) (fs2 := [_, _, _]) dR_init_17 rfl fR_15 ⟨_, _, rfl⟩ (by first | exact zu_s | (rw [zu_n (by omega)]; exact zu_s)) (by rfl) (by rfl) (by exact Nat.le_of_ble_eq_true rfl) (by rfl) ?_
  refine zs_aload_n (pc := 20) dR_init_20 rfl ?_
  refine zs_iconst (pc := 21) dR_init_21 zi_0 ?_
  refine zs_putU (pc := 22) (fs2 := [_, _, _]) dR_init_22 fR_18 (by rfl) (by rfl) (by exact Nat.le_of_ble_eq_true rfl) (by rfl) ?_
  exact zs_vret (pc := 25) dR_init_25 rfl (by omega) (by omega) (⟨rfl, rfl, fun q hq => by rw [zu_n (by omega), zu_n (by omega), zu_n (by omega), zu_n (by omega)], zu_s, by rw [zu_n (by omega), zu_n (by omega), zu_n (by omega)]; exact zu_s, by rw [zu_n (by omega)]; exact zu_s⟩)
theorem s_P_init {Γ : zG} {l : Launch} (hl : l.stackTraces = false) {d : Nat} {h : zH} {t : Nat} (h0 : h t = some (.inr (4, [.null, .int (nI 0), .int (nI 0), .int (nI 0), .int (nI 0), .null, .null, .null, .int (nI 0)]))) : zC Γ l d mP_init [.ref t] h (t + 1) 4 105 (fun o h2 n2 => o = .inl none ∧ n2 = t + 5 ∧ zfr t 5 h h2 ∧ PH h2 t (fun _ => 0) 0 0 0 0 0 (fun _ => 0) (fun _ => 0) (fun _ => 0)) := by
  refine zC_of (ls := [some (.ref t)]) hl (by decide +kernel) rfl (Nat.le_of_ble_eq_true rfl) rfl ?_
  refine zs_aload_n (pc := 0) dP_init_0 rfl ?_
  refine zs_objInit (pc := 1) dP_init_1 kP_3 (Nat.le_of_ble_eq_true rfl) ?_
  refine zs_aload_n (pc := 4) dP_init_4 rfl ?_
  refine zs_bipush (pc := 5) dP_init_5 (zi_b 60 (by decide)) ?_
  refine zs_newa (pc := 7) (kd := 1) (N := 60) (a0 := (60, .inl (fun i => nI ((fun _ => 0) i)))) dP_init_7 (by decide) rfl (by decide) (zt1 (i := 212) rfl) (fun cA => rfl) (by decide) (by decide) (by decide) (by omega) (by omega) ?_
  refine zs_putF (pc := 9) (fs2 := [_, _, _, _, _, _, _, _, _]) dP_init_9 rfl fP_9 ⟨_, _, rfl⟩ (by first | exact h0 | exact zu_s | (rw [zu_n (by omega)]; exact h0)) (by rfl) (by rfl) (by exact Nat.le_of_ble_eq_true rfl) (by rfl) ?_
  refine zs_aload_n (pc := 12) dP_init_12 rfl ?_
  refine zs_iconst (pc := 13) dP_init_13 zi_0 ?_
  refine zs_putU (pc := 14) (fs2 := [_, _, _, _, _, _, _, _, _]) dP_init_14 fP_15 (by rfl) (by rfl) (by exact Nat.le_of_ble_eq_true rfl) (by rfl) ?_
  refine zs_aload_n (pc := 17) dP_init_17 rfl ?_
  refine zs_iconst (pc := 18) dP_init_18 zi_0 ?_
  refine zs_putU (pc := 19) (fs2 := [_, _, _, _, _, _, _, _, _]) dP_init_19 fP_19 (by rfl) (by rfl) (by exact Nat.le_of_ble_eq_true rfl) (by rfl) ?_
  refine zs_aload_n (pc := 22) dP_init_22 rfl ?_
  refine zs_iconst (pc := 23) dP_init_23 zi_0 ?_
  refine zs_putU (pc := 24) (fs2 := [_, _, _, _, _, _, _, _, _]) dP_init_24 fP_22 (by rfl) (by rfl) (by exact Nat.le_of_ble_eq_true rfl) (by rfl) ?_
  refine zs_aload_n (pc := 27) dP_init_27 rfl ?_
  refine zs_iconst (pc := 28) dP_init_28 zi_0 ?_
  refine zs_putU (pc := 29) (fs2 := [_, _, _, _, _, _, _, _, _]) dP_init_29 fP_25 (by rfl) (by rfl) (by exact Nat.le_of_ble_eq_true rfl) (by rfl) ?_
  refine zs_aload_n (pc := 32) dP_init_32 rfl ?_
  refine zs_bipush (pc := 33) dP_init_33 (zi_b 15 (by decide)) ?_
  refine zs_newa (pc := 35) (kd := 0) (N := 15) (a0 := (15, .inl (fun i => nI ((fun _ => 0) i)))) dP_init_35 (by decide) rfl (by decide) (zt1 (i := 84) rfl) (fun cA => rfl) (by decide) (by decide) (by decide) (by omega) (by omega) ?_
  refine zs_putF (pc := 37) (fs2 := [_, _, _, _, _, _, _, _, _]) dP_init_37 rfl fP_28 ⟨_, _, rfl⟩ (by first | exact zu_s | (rw [zu_n (by omega)]; exact zu_s)) (by rfl) (by rfl) (by exact Nat.le_of_ble_eq_true rfl) (by rfl) ?_
  refine zs_aload_n (pc := 40) dP_init_40 rfl ?_
  refine zs_bipush (pc := 41) dP_init_41 (zi_b 15 (by decide)) ?_
  refine zs_newa (pc := 43) (kd := 0) (N := 15) (a0 := (15, .inl (fun i => nI ((fun _ => 0) i)))) dP_init_43 (by decide) rfl (by decide) (zt1 (i := 84) rfl) (fun cA => rfl) (by decide) (by decide) (by decide) (by omega) (by omega) ?_
  refine zs_putF (pc := 45) (fs2 := [_, _, _, _, _, _, _, _, _]) dP_init_45 rfl fP_32 ⟨_, _, rfl⟩ (by first | exact zu_s | (rw [zu_n (by omega)]; exact zu_s)) (by rfl) (by rfl) (by exact Nat.le_of_ble_eq_true rfl) (by rfl) ?_
  refine zs_aload_n (pc := 48) dP_init_48 rfl ?_
  refine zs_bipush (pc := 49) dP_init_49 (zi_b 15 (by decide)) ?_
  refine zs_newa (pc := 51) (kd := 0) (N := 15) (a0 := (15, .inl (fun i => nI ((fun _ => 0) i)))) dP_init_51 (by decide) rfl (by decide) (zt1 (i := 84) rfl) (fun cA => rfl) (by decide) (by decide) (by decide) (by omega) (by omega) ?_
  refine zs_putF (pc := 53) (fs2 := [_, _, _, _, _, _, _, _, _]) dP_init_53 rfl fP_35 ⟨_, _, rfl⟩ (by first | exact zu_s | (rw [zu_n (by omega)]; exact zu_s)) (by rfl) (by rfl) (by exact Nat.le_of_ble_eq_true rfl) (by rfl) ?_
  refine zs_aload_n (pc := 56) dP_init_56 rfl ?_
  refine zs_iconst (pc := 57) dP_init_57 zi_0 ?_
  refine zs_putU (pc := 58) (fs2 := [_, _, _, _, _, _, _, _, _]) dP_init_58 fP_38 (by rfl) (by rfl) (by exact Nat.le_of_ble_eq_true rfl) (by rfl) ?_
  exact zs_vret (pc := 61) dP_init_61 rfl (by omega) (by omega) (⟨rfl, rfl, fun q hq => by rw [zu_n (by omega), zu_n (by omega), zu_n (by omega), zu_n (by omega), zu_n (by omega), zu_n (by omega), zu_n (by omega), zu_n (by omega)], zu_s, by rw [zu_n (by omega), zu_n (by omega), zu_n (by omega), zu_n (by omega), zu_n (by omega), zu_n (by omega), zu_n (by omega)]; exact zu_s, by rw [zu_n (by omega), zu_n (by omega), zu_n (by omega), zu_n (by omega), zu_n (by omega)]; exact zu_s, by rw [zu_n (by omega), zu_n (by omega), zu_n (by omega)]; exact zu_s, by rw [zu_n (by omega)]; exact zu_s⟩)
theorem s_L_init {Γ : zG} {l : Launch} (hl : l.stackTraces = false) {d : Nat} {h : zH} {t : Nat} (h0 : h t = some (.inr (3, [.null, .null, .int (nI 0)]))) : zC Γ l d mL_init [.ref t] h (t + 1) 2 490 (fun o h2 n2 => o = .inl none ∧ n2 = t + 3 ∧ zfr t 3 h h2 ∧ LH h2 t []) := by
  refine zC_of (ls := [some (.ref t)]) hl (by decide +kernel) rfl (Nat.le_of_ble_eq_true rfl) rfl ?_
  refine zs_aload_n (pc := 0) dL_init_0 rfl ?_
  refine zs_objInit (pc := 1) dL_init_1 kL_3 (Nat.le_of_ble_eq_true rfl) ?_
  refine zs_aload_n (pc := 4) dL_init_4 rfl ?_
  refine zs_sipush (pc := 5) dL_init_5 (zi_s 480 (by decide)) ?_
  refine zs_newa (pc := 8) (kd := 1) (N := 480) (a0 := (480, .inl (fun i => nI ((fun _ => 0) i)))) dL_init_8 (by decide) rfl (by decide) (zt1 (i := 212) rfl) (fun cA => rfl) (by decide) (by decide) (by decide) (by omega) (by omega) ?_
  refine zs_putF (pc := 10) (fs2 := [_, _, _]) dL_init_10 rfl fL_9 ⟨_, _, rfl⟩ (by first | exact h0 | exact zu_s | (rw [zu_n (by omega)]; exact h0)) (by rfl) (by rfl) (by exact Nat.le_of_ble_eq_true rfl) (by rfl) ?_
  refine zs_aload_n (pc := 13) dL_init_13 rfl ?_
  refine zs_bipush (pc := 14) dL_init_14 (zi_b 10 (by decide)) ?_
  refine zs_newa (pc := 16) (kd := 1) (N := 10) (a0 := (10, .inl (fun i => nI ((fun _ => 0) i)))) dL_init_16 (by decide) rfl (by decide) (zt1 (i := 212) rfl) (fun cA => rfl) (by decide) (by decide) (by decide) (by omega) (by omega) ?_
  refine zs_putF (pc := 18) (fs2 := [_, _, _]) dL_init_18 rfl fL_15 ⟨_, _, rfl⟩ (by first | exact zu_s | (rw [zu_n (by omega)]; exact zu_s)) (by rfl) (by rfl) (by exact Nat.le_of_ble_eq_true rfl) (by rfl) ?_
  refine zs_aload_n (pc := 21) dL_init_21 rfl ?_
  refine zs_iconst (pc := 22) dL_init_22 zi_0 ?_
  refine zs_putU (pc := 23) (fs2 := [_, _, _]) dL_init_23 fL_18 (by rfl) (by rfl) (by exact Nat.le_of_ble_eq_true rfl) (by rfl) ?_
  exact zs_vret (pc := 26) dL_init_26 rfl (by omega) (by omega) (⟨rfl, rfl, fun q hq => by rw [zu_n (by omega), zu_n (by omega), zu_n (by omega), zu_n (by omega)], fun _ => 0, fun _ => 0, zu_s, by rw [zu_n (by omega), zu_n (by omega), zu_n (by omega)]; exact zu_s, by rw [zu_n (by omega)]; exact zu_s, fun i hi => absurd hi (by show ¬ i < 0; omega)⟩)

theorem s_X_init {Γ : zG} {l : Launch} (hl : l.stackTraces = false) {d : Nat} (hd : 4 ≤ d) {h : zH} {x B : Nat} (h0 : h x = some (.inr (7, [.null, .null, .null, .null, .null, .null, .null, .null, .int (nI 0), .int (nI 0), .int (nI 0), .int (nI 0)]))) : zC Γ l d mX_init [.ref x] h (x + 1) 480 6067 (fun o h2 n2 => o = .inl none ∧ n2 = x + 481 ∧ zfr x 481 h h2 ∧ XR B h2 x zg0 (fun _ _ => 0) 0 none none none (fun _ => 0) 0 []) := by
  have hx := h0
  refine zC_of (ls := [some (.ref x)]) hl (by decide +kernel) rfl (Nat.le_of_ble_eq_true rfl) rfl ?_
  refine zs_aload_n (pc := 0) dX_init_0 rfl ?_
  refine zs_objInit (pc := 1) dX_init_1 kX_3 (Nat.le_of_ble_eq_true rfl) ?_
  refine zs_aload_n (pc := 4) dX_init_4 rfl ?_
  refine zs_new (pc := 5) (ci := 0) (N := 8) (T := zTC) (fs := [.null, .int (nI 0), .int (nI 0), .int (nI 0), .int (nI 0), .int (nI 0), .int (nI 0), .int (nI 0)]) dX_init_5 rfl zcC_ok kcX_9 (zt1 (i := 35) rfl) (zt1 (i := 2) rfl) zfsC (by omega) (by omega) ?_
  refine zs_dup (pc := 8) dX_init_8 rfl ?_
  refine zcIR_0 (pc := 9) (d2 := d - 1) (s_C_init hl (by omega) zu_s) dX_init_9 kX_11 mdC_init miC_init rfl rfl rfl (Nat.le_of_ble_eq_true rfl) (by omega) (by omega) (by omega) (fun v h1 n1 hq => ?_) (fun E h1 n1 hq => ?_)
  rotate_left
  · exact absurd hq.1 (by intro q; cases q)
  obtain ⟨hv, hn1, hf, hc1⟩ := hq
  obtain rfl := Sum.inl.inj hv
  obtain rfl : n1 = x + 43 := by omega
  have hk : ∀ q, q < x + 1 → h1 q = h q := fun q q1 => by rw [hf q (by omega), zu_n (by omega)]
  have hx : h1 x = some (.inr (7, [.null, .null, .null, .null, .null, .null, .null, .null, .int (nI 0), .int (nI 0), .int (nI 0), .int (nI 0)])) := by rw [hk _ (by omega)]; exact h0
  refine zs_putF (pc := 12) (fs2 := [_, _, _, _, _, _, _, _, _, _, _, _]) dX_init_12 rfl fX_12 ⟨_, _, rfl⟩ (by exact hx) (by rfl) (by rfl) (by exact Nat.le_of_ble_eq_true rfl) (by rfl) ?_
  have hxg : zu h1 x (.inr (7, [.ref (x + 1), .null, .null, .null, .null, .null, .null, .null, .int (nI 0), .int (nI 0), .int (nI 0), .int (nI 0)])) x = some (.inr (7, [.ref (x + 1), .null, .null, .null, .null, .null, .null, .null, .int (nI 0), .int (nI 0), .int (nI 0), .int (nI 0)])) := zu_s
  have hkg : ∀ q, q ≠ x → zu h1 x (.inr (7, [.ref (x + 1), .null, .null, .null, .null, .null, .null, .null, .int (nI 0), .int (nI 0), .int (nI 0), .int (nI 0)])) q = h1 q := fun q q1 => zu_n q1
  have hc1 := hc1.sm (h1 := zu h1 x (.inr (7, [.ref (x + 1), .null, .null, .null, .null, .null, .null, .null, .int (nI 0), .int (nI 0), .int (nI 0), .int (nI 0)]))) (fun q q1 q2 => hkg q (by omega))
  have hfr : ∀ q, q ≠ x → ¬ (x + 1 ≤ q ∧ q < x + 43) → zu h1 x (.inr (7, [.ref (x + 1), .null, .null, .null, .null, .null, .null, .null, .int (nI 0), .int (nI 0), .int (nI 0), .int (nI 0)])) q = h q := fun q q0 q1 => by rw [hkg q q0, hf q (by omega), zu_n (by omega)]
  have hx := hxg
  generalize hg : zu h1 x (.inr (7, [.ref (x + 1), .null, .null, .null, .null, .null, .null, .null, .int (nI 0), .int (nI 0), .int (nI 0), .int (nI 0)])) = g1 at hxg hkg hfr hx hc1 ⊢
  clear hg hkg hk hf
  refine zs_aload_n (pc := 15) dX_init_15 rfl ?_
  refine zs_new (pc := 16) (ci := 0) (N := 8) (T := zTC) (fs := [.null, .int (nI 0), .int (nI 0), .int (nI 0), .int (nI 0), .int (nI 0), .int (nI 0), .int (nI 0)]) dX_init_16 rfl zcC_ok kcX_9 (zt1 (i := 35) rfl) (zt1 (i := 2) rfl) zfsC (by omega) (by omega) ?_
  refine zs_dup (pc := 19) dX_init_19 rfl ?_
  refine zcIR_0 (pc := 20) (d2 := d - 1) (s_C_init hl (by omega) zu_s) dX_init_20 kX_11 mdC_init miC_init rfl rfl rfl (Nat.le_of_ble_eq_true rfl) (by omega) (by omega) (by omega) (fun v h2 n1 hq => ?_) (fun E h2 n1 hq => ?_)
  rotate_left
  · exact absurd hq.1 (by intro q; cases q)
  obtain ⟨hv, hn1, hf, hc2⟩ := hq
  obtain rfl := Sum.inl.inj hv
  obtain rfl : n1 = x + 85 := by omega
  have hk : ∀ q, q < x + 43 → h2 q = g1 q := fun q q1 => by rw [hf q (by omega), zu_n (by omega)]
  have hx : h2 x = some (.inr (7, [.ref (x + 1), .null, .null, .null, .null, .null, .null, .null, .int (nI 0), .int (nI 0), .int (nI 0), .int (nI 0)])) := by rw [hk _ (by omega)]; exact hxg
  have hc1 := hc1.sm (h1 := h2) (fun q q1 q2 => hk q (by omega))
  refine zs_putF (pc := 23) (fs2 := [_, _, _, _, _, _, _, _, _, _, _, _]) dX_init_23 rfl fX_16 ⟨_, _, rfl⟩ (by exact hx) (by rfl) (by rfl) (by exact Nat.le_of_ble_eq_true rfl) (by rfl) ?_
  have hxg : zu h2 x (.inr (7, [.ref (x + 1), .ref (x + 43), .null, .null, .null, .null, .null, .null, .int (nI 0), .int (nI 0), .int (nI 0), .int (nI 0)])) x = some (.inr (7, [.ref (x + 1), .ref (x + 43), .null, .null, .null, .null, .null, .null, .int (nI 0), .int (nI 0), .int (nI 0), .int (nI 0)])) := zu_s
  have hkg : ∀ q, q ≠ x → zu h2 x (.inr (7, [.ref (x + 1), .ref (x + 43), .null, .null, .null, .null, .null, .null, .int (nI 0), .int (nI 0), .int (nI 0), .int (nI 0)])) q = h2 q := fun q q1 => zu_n q1
  have hc1 := hc1.sm (h1 := zu h2 x (.inr (7, [.ref (x + 1), .ref (x + 43), .null, .null, .null, .null, .null, .null, .int (nI 0), .int (nI 0), .int (nI 0), .int (nI 0)]))) (fun q q1 q2 => hkg q (by omega))
  have hc2 := hc2.sm (h1 := zu h2 x (.inr (7, [.ref (x + 1), .ref (x + 43), .null, .null, .null, .null, .null, .null, .int (nI 0), .int (nI 0), .int (nI 0), .int (nI 0)]))) (fun q q1 q2 => hkg q (by omega))
  have hfr : ∀ q, q ≠ x → ¬ (x + 1 ≤ q ∧ q < x + 85) → zu h2 x (.inr (7, [.ref (x + 1), .ref (x + 43), .null, .null, .null, .null, .null, .null, .int (nI 0), .int (nI 0), .int (nI 0), .int (nI 0)])) q = h q := fun q q0 q1 => by rw [hkg q q0, hf q (by omega), zu_n (by omega)]; exact hfr q q0 (by omega)
  have hx := hxg
  generalize hg : zu h2 x (.inr (7, [.ref (x + 1), .ref (x + 43), .null, .null, .null, .null, .null, .null, .int (nI 0), .int (nI 0), .int (nI 0), .int (nI 0)])) = g2 at hxg hkg hfr hx hc1 hc2 ⊢
  clear hg hkg hk hf
  refine zs_aload_n (pc := 26) dX_init_26 rfl ?_
  refine zs_new (pc := 27) (ci := 2) (N := 3) (T := zTH) (fs := [.null, .int (nI 0), .int (nI 0)]) dX_init_27 rfl zcH_ok kcX_19 (zt1 (i := 122) rfl) (zt1 (i := 4) rfl) zfsH (by omega) (by omega) ?_
  refine zs_dup (pc := 30) dX_init_30 rfl ?_
  refine zcIR_0 (pc := 31) (d2 := d - 1) (s_H_init hl (by omega) zu_s) dX_init_31 kX_21 mdH_init miH_init rfl rfl rfl (Nat.le_of_ble_eq_true rfl) (by omega) (by omega) (by omega) (fun v h3 n1 hq => ?_) (fun E h3 n1 hq => ?_)
  rotate_left
  · exact absurd hq.1 (by intro q; cases q)
  obtain ⟨hv, hn1, hf, hc3⟩ := hq
  obtain rfl := Sum.inl.inj hv
  obtain rfl : n1 = x + 465 := by omega
  have hk : ∀ q, q < x + 85 → h3 q = g2 q := fun q q1 => by rw [hf q (by omega), zu_n (by omega)]
  have hx : h3 x = some (.inr (7, [.ref (x + 1), .ref (x + 43), .null, .null, .null, .null, .null, .null, .int (nI 0), .int (nI 0), .int (nI 0), .int (nI 0)])) := by rw [hk _ (by omega)]; exact hxg
  have hc1 := hc1.sm (h1 := h3) (fun q q1 q2 => hk q (by omega))
  have hc2 := hc2.sm (h1 := h3) (fun q q1 q2 => hk q (by omega))
  refine zs_putF (pc := 34) (fs2 := [_, _, _, _, _, _, _, _, _, _, _, _]) dX_init_34 rfl fX_22 ⟨_, _, rfl⟩ (by exact hx) (by rfl) (by rfl) (by exact Nat.le_of_ble_eq_true rfl) (by rfl) ?_
  have hxg : zu h3 x (.inr (7, [.ref (x + 1), .ref (x + 43), .ref (x + 85), .null, .null, .null, .null, .null, .int (nI 0), .int (nI 0), .int (nI 0), .int (nI 0)])) x = some (.inr (7, [.ref (x + 1), .ref (x + 43), .ref (x + 85), .null, .null, .null, .null, .null, .int (nI 0), .int (nI 0), .int (nI 0), .int (nI 0)])) := zu_s
  have hkg : ∀ q, q ≠ x → zu h3 x (.inr (7, [.ref (x + 1), .ref (x + 43), .ref (x + 85), .null, .null, .null, .null, .null, .int (nI 0), .int (nI 0), .int (nI 0), .int (nI 0)])) q = h3 q := fun q q1 => zu_n q1
  have hc1 := hc1.sm (h1 := zu h3 x (.inr (7, [.ref (x + 1), .ref (x + 43), .ref (x + 85), .null, .null, .null, .null, .null, .int (nI 0), .int (nI 0), .int (nI 0), .int (nI 0)]))) (fun q q1 q2 => hkg q (by omega))
  have hc2 := hc2.sm (h1 := zu h3 x (.inr (7, [.ref (x + 1), .ref (x + 43), .ref (x + 85), .null, .null, .null, .null, .null, .int (nI 0), .int (nI 0), .int (nI 0), .int (nI 0)]))) (fun q q1 q2 => hkg q (by omega))
  have hc3 := fun B => (hc3 B).sm (h1 := zu h3 x (.inr (7, [.ref (x + 1), .ref (x + 43), .ref (x + 85), .null, .null, .null, .null, .null, .int (nI 0), .int (nI 0), .int (nI 0), .int (nI 0)]))) (fun q q1 q2 => hkg q (by omega))
  have hfr : ∀ q, q ≠ x → ¬ (x + 1 ≤ q ∧ q < x + 465) → zu h3 x (.inr (7, [.ref (x + 1), .ref (x + 43), .ref (x + 85), .null, .null, .null, .null, .null, .int (nI 0), .int (nI 0), .int (nI 0), .int (nI 0)])) q = h q := fun q q0 q1 => by rw [hkg q q0, hf q (by omega), zu_n (by omega)]; exact hfr q q0 (by omega)
  have hx := hxg
  generalize hg : zu h3 x (.inr (7, [.ref (x + 1), .ref (x + 43), .ref (x + 85), .null, .null, .null, .null, .null, .int (nI 0), .int (nI 0), .int (nI 0), .int (nI 0)])) = g3 at hxg hkg hfr hx hc1 hc2 hc3 ⊢
  clear hg hkg hk hf
  refine zs_aload_n (pc := 37) dX_init_37 rfl ?_
  refine zs_new (pc := 38) (ci := 6) (N := 2) (T := zTT) (fs := [.null, .null]) dX_init_38 rfl zcT_ok kcX_26 (zt1 (i := 142) rfl) (zt1 (i := 5) rfl) zfsT (by omega) (by omega) ?_
  refine zs_dup (pc := 41) dX_init_41 rfl ?_
  refine zcINR_0 (pc := 42) (d2 := d - 1) (s_T_init hl zu_s) dX_init_42 knX_28 mdT_init miT_init rfl rfl rfl (Nat.le_of_ble_eq_true rfl) (by omega) (by omega) (by omega) (fun v h4 n1 hq => ?_) (fun E h4 n1 hq => ?_)
  rotate_left
  · exact absurd hq.1 (by intro q; cases q)
  obtain ⟨hv, hn1, hf, hc4⟩ := hq
  obtain rfl := Sum.inl.inj hv
  obtain rfl : n1 = x + 468 := by omega
  have hk : ∀ q, q < x + 465 → h4 q = g3 q := fun q q1 => by rw [hf q (by omega), zu_n (by omega)]
  have hx : h4 x = some (.inr (7, [.ref (x + 1), .ref (x + 43), .ref (x + 85), .null, .null, .null, .null, .null, .int (nI 0), .int (nI 0), .int (nI 0), .int (nI 0)])) := by rw [hk _ (by omega)]; exact hxg
  have hc1 := hc1.sm (h1 := h4) (fun q q1 q2 => hk q (by omega))
  have hc2 := hc2.sm (h1 := h4) (fun q q1 q2 => hk q (by omega))
  have hc3 := fun B => (hc3 B).sm (h1 := h4) (fun q q1 q2 => hk q (by omega))
  refine zs_putF (pc := 45) (fs2 := [_, _, _, _, _, _, _, _, _, _, _, _]) dX_init_45 rfl fX_29 ⟨_, _, rfl⟩ (by exact hx) (by rfl) (by rfl) (by exact Nat.le_of_ble_eq_true rfl) (by rfl) ?_
  have hxg : zu h4 x (.inr (7, [.ref (x + 1), .ref (x + 43), .ref (x + 85), .ref (x + 465), .null, .null, .null, .null, .int (nI 0), .int (nI 0), .int (nI 0), .int (nI 0)])) x = some (.inr (7, [.ref (x + 1), .ref (x + 43), .ref (x + 85), .ref (x + 465), .null, .null, .null, .null, .int (nI 0), .int (nI 0), .int (nI 0), .int (nI 0)])) := zu_s
  have hkg : ∀ q, q ≠ x → zu h4 x (.inr (7, [.ref (x + 1), .ref (x + 43), .ref (x + 85), .ref (x + 465), .null, .null, .null, .null, .int (nI 0), .int (nI 0), .int (nI 0), .int (nI 0)])) q = h4 q := fun q q1 => zu_n q1
  have hc1 := hc1.sm (h1 := zu h4 x (.inr (7, [.ref (x + 1), .ref (x + 43), .ref (x + 85), .ref (x + 465), .null, .null, .null, .null, .int (nI 0), .int (nI 0), .int (nI 0), .int (nI 0)]))) (fun q q1 q2 => hkg q (by omega))
  have hc2 := hc2.sm (h1 := zu h4 x (.inr (7, [.ref (x + 1), .ref (x + 43), .ref (x + 85), .ref (x + 465), .null, .null, .null, .null, .int (nI 0), .int (nI 0), .int (nI 0), .int (nI 0)]))) (fun q q1 q2 => hkg q (by omega))
  have hc3 := fun B => (hc3 B).sm (h1 := zu h4 x (.inr (7, [.ref (x + 1), .ref (x + 43), .ref (x + 85), .ref (x + 465), .null, .null, .null, .null, .int (nI 0), .int (nI 0), .int (nI 0), .int (nI 0)]))) (fun q q1 q2 => hkg q (by omega))
  have hc4 := hc4.sm (h1 := zu h4 x (.inr (7, [.ref (x + 1), .ref (x + 43), .ref (x + 85), .ref (x + 465), .null, .null, .null, .null, .int (nI 0), .int (nI 0), .int (nI 0), .int (nI 0)]))) (fun q q1 q2 => hkg q (by omega))
  have hfr : ∀ q, q ≠ x → ¬ (x + 1 ≤ q ∧ q < x + 468) → zu h4 x (.inr (7, [.ref (x + 1), .ref (x + 43), .ref (x + 85), .ref (x + 465), .null, .null, .null, .null, .int (nI 0), .int (nI 0), .int (nI 0), .int (nI 0)])) q = h q := fun q q0 q1 => by rw [hkg q q0, hf q (by omega), zu_n (by omega)]; exact hfr q q0 (by omega)
  have hx := hxg
  generalize hg : zu h4 x (.inr (7, [.ref (x + 1), .ref (x + 43), .ref (x + 85), .ref (x + 465), .null, .null, .null, .null, .int (nI 0), .int (nI 0), .int (nI 0), .int (nI 0)])) = g4 at hxg hkg hfr hx hc1 hc2 hc3 hc4 ⊢
  clear hg hkg hk hf
  refine zs_aload_n (pc := 48) dX_init_48 rfl ?_
  refine zs_new (pc := 49) (ci := 5) (N := 3) (T := zTR) (fs := [.null, .null, .int (nI 0)]) dX_init_49 rfl zcR_ok kcX_33 (zt1 (i := 155) rfl) (zt1 (i := 6) rfl) zfsR (by omega) (by omega) ?_
  refine zs_dup (pc := 52) dX_init_52 rfl ?_
  refine zcINR_0 (pc := 53) (d2 := d - 1) (s_R_init hl zu_s) dX_init_53 knX_35 mdR_init miR_init rfl rfl rfl (Nat.le_of_ble_eq_true rfl) (by omega) (by omega) (by omega) (fun v h5 n1 hq => ?_) (fun E h5 n1 hq => ?_)
  rotate_left
  · exact absurd hq.1 (by intro q; cases q)
  obtain ⟨hv, hn1, hf, hc5⟩ := hq
  obtain rfl := Sum.inl.inj hv
  obtain rfl : n1 = x + 471 := by omega
  have hk : ∀ q, q < x + 468 → h5 q = g4 q := fun q q1 => by rw [hf q (by omega), zu_n (by omega)]
  have hx : h5 x = some (.inr (7, [.ref (x + 1), .ref (x + 43), .ref (x + 85), .ref (x + 465), .null, .null, .null, .null, .int (nI 0), .int (nI 0), .int (nI 0), .int (nI 0)])) := by rw [hk _ (by omega)]; exact hxg
  have hc1 := hc1.sm (h1 := h5) (fun q q1 q2 => hk q (by omega))
  have hc2 := hc2.sm (h1 := h5) (fun q q1 q2 => hk q (by omega))
  have hc3 := fun B => (hc3 B).sm (h1 := h5) (fun q q1 q2 => hk q (by omega))
  have hc4 := hc4.sm (h1 := h5) (fun q q1 q2 => hk q (by omega))
  refine zs_putF (pc := 56) (fs2 := [_, _, _, _, _, _, _, _, _, _, _, _]) dX_init_56 rfl fX_36 ⟨_, _, rfl⟩ (by exact hx) (by rfl) (by rfl) (by exact Nat.le_of_ble_eq_true rfl) (by rfl) ?_
  have hxg : zu h5 x (.inr (7, [.ref (x + 1), .ref (x + 43), .ref (x + 85), .ref (x + 465), .ref (x + 468), .null, .null, .null, .int (nI 0), .int (nI 0), .int (nI 0), .int (nI 0)])) x = some (.inr (7, [.ref (x + 1), .ref (x + 43), .ref (x + 85), .ref (x + 465), .ref (x + 468), .null, .null, .null, .int (nI 0), .int (nI 0), .int (nI 0), .int (nI 0)])) := zu_s
  have hkg : ∀ q, q ≠ x → zu h5 x (.inr (7, [.ref (x + 1), .ref (x + 43), .ref (x + 85), .ref (x + 465), .ref (x + 468), .null, .null, .null, .int (nI 0), .int (nI 0), .int (nI 0), .int (nI 0)])) q = h5 q := fun q q1 => zu_n q1
  have hc1 := hc1.sm (h1 := zu h5 x (.inr (7, [.ref (x + 1), .ref (x + 43), .ref (x + 85), .ref (x + 465), .ref (x + 468), .null, .null, .null, .int (nI 0), .int (nI 0), .int (nI 0), .int (nI 0)]))) (fun q q1 q2 => hkg q (by omega))
  have hc2 := hc2.sm (h1 := zu h5 x (.inr (7, [.ref (x + 1), .ref (x + 43), .ref (x + 85), .ref (x + 465), .ref (x + 468), .null, .null, .null, .int (nI 0), .int (nI 0), .int (nI 0), .int (nI 0)]))) (fun q q1 q2 => hkg q (by omega))
  have hc3 := fun B => (hc3 B).sm (h1 := zu h5 x (.inr (7, [.ref (x + 1), .ref (x + 43), .ref (x + 85), .ref (x + 465), .ref (x + 468), .null, .null, .null, .int (nI 0), .int (nI 0), .int (nI 0), .int (nI 0)]))) (fun q q1 q2 => hkg q (by omega))
  have hc4 := hc4.sm (h1 := zu h5 x (.inr (7, [.ref (x + 1), .ref (x + 43), .ref (x + 85), .ref (x + 465), .ref (x + 468), .null, .null, .null, .int (nI 0), .int (nI 0), .int (nI 0), .int (nI 0)]))) (fun q q1 q2 => hkg q (by omega))
  have hc5 := hc5.sm (h1 := zu h5 x (.inr (7, [.ref (x + 1), .ref (x + 43), .ref (x + 85), .ref (x + 465), .ref (x + 468), .null, .null, .null, .int (nI 0), .int (nI 0), .int (nI 0), .int (nI 0)]))) (fun q q1 q2 => hkg q (by omega))
  have hfr : ∀ q, q ≠ x → ¬ (x + 1 ≤ q ∧ q < x + 471) → zu h5 x (.inr (7, [.ref (x + 1), .ref (x + 43), .ref (x + 85), .ref (x + 465), .ref (x + 468), .null, .null, .null, .int (nI 0), .int (nI 0), .int (nI 0), .int (nI 0)])) q = h q := fun q q0 q1 => by rw [hkg q q0, hf q (by omega), zu_n (by omega)]; exact hfr q q0 (by omega)
  have hx := hxg
  generalize hg : zu h5 x (.inr (7, [.ref (x + 1), .ref (x + 43), .ref (x + 85), .ref (x + 465), .ref (x + 468), .null, .null, .null, .int (nI 0), .int (nI 0), .int (nI 0), .int (nI 0)])) = g5 at hxg hkg hfr hx hc1 hc2 hc3 hc4 hc5 ⊢
  clear hg hkg hk hf
  refine zs_aload_n (pc := 59) dX_init_59 rfl ?_
  refine zs_new (pc := 60) (ci := 4) (N := 9) (T := zTP) (fs := [.null, .int (nI 0), .int (nI 0), .int (nI 0), .int (nI 0), .null, .null, .null, .int (nI 0)]) dX_init_60 rfl zcP_ok kcX_40 (zt1 (i := 174) rfl) (zt1 (i := 7) rfl) zfsP (by omega) (by omega) ?_
  refine zs_dup (pc := 63) dX_init_63 rfl ?_
  refine zcINR_0 (pc := 64) (d2 := d - 1) (s_P_init hl zu_s) dX_init_64 knX_42 mdP_init miP_init rfl rfl rfl (Nat.le_of_ble_eq_true rfl) (by omega) (by omega) (by omega) (fun v h6 n1 hq => ?_) (fun E h6 n1 hq => ?_)
  rotate_left
  · exact absurd hq.1 (by intro q; cases q)
  obtain ⟨hv, hn1, hf, hc6⟩ := hq
  obtain rfl := Sum.inl.inj hv
  obtain rfl : n1 = x + 476 := by omega
  have hk : ∀ q, q < x + 471 → h6 q = g5 q := fun q q1 => by rw [hf q (by omega), zu_n (by omega)]
  have hx : h6 x = some (.inr (7, [.ref (x + 1), .ref (x + 43), .ref (x + 85), .ref (x + 465), .ref (x + 468), .null, .null, .null, .int (nI 0), .int (nI 0), .int (nI 0), .int (nI 0)])) := by rw [hk _ (by omega)]; exact hxg
  have hc1 := hc1.sm (h1 := h6) (fun q q1 q2 => hk q (by omega))
  have hc2 := hc2.sm (h1 := h6) (fun q q1 q2 => hk q (by omega))
  have hc3 := fun B => (hc3 B).sm (h1 := h6) (fun q q1 q2 => hk q (by omega))
  have hc4 := hc4.sm (h1 := h6) (fun q q1 q2 => hk q (by omega))
  have hc5 := hc5.sm (h1 := h6) (fun q q1 q2 => hk q (by omega))
  refine zs_putF (pc := 67) (fs2 := [_, _, _, _, _, _, _, _, _, _, _, _]) dX_init_67 rfl fX_43 ⟨_, _, rfl⟩ (by exact hx) (by rfl) (by rfl) (by exact Nat.le_of_ble_eq_true rfl) (by rfl) ?_
  have hxg : zu h6 x (.inr (7, [.ref (x + 1), .ref (x + 43), .ref (x + 85), .ref (x + 465), .ref (x + 468), .ref (x + 471), .null, .null, .int (nI 0), .int (nI 0), .int (nI 0), .int (nI 0)])) x = some (.inr (7, [.ref (x + 1), .ref (x + 43), .ref (x + 85), .ref (x + 465), .ref (x + 468), .ref (x + 471), .null, .null, .int (nI 0), .int (nI 0), .int (nI 0), .int (nI 0)])) := zu_s
  have hkg : ∀ q, q ≠ x → zu h6 x (.inr (7, [.ref (x + 1), .ref (x + 43), .ref (x + 85), .ref (x + 465), .ref (x + 468), .ref (x + 471), .null, .null, .int (nI 0), .int (nI 0), .int (nI 0), .int (nI 0)])) q = h6 q := fun q q1 => zu_n q1
  have hc1 := hc1.sm (h1 := zu h6 x (.inr (7, [.ref (x + 1), .ref (x + 43), .ref (x + 85), .ref (x + 465), .ref (x + 468), .ref (x + 471), .null, .null, .int (nI 0), .int (nI 0), .int (nI 0), .int (nI 0)]))) (fun q q1 q2 => hkg q (by omega))
  have hc2 := hc2.sm (h1 := zu h6 x (.inr (7, [.ref (x + 1), .ref (x + 43), .ref (x + 85), .ref (x + 465), .ref (x + 468), .ref (x + 471), .null, .null, .int (nI 0), .int (nI 0), .int (nI 0), .int (nI 0)]))) (fun q q1 q2 => hkg q (by omega))
  have hc3 := fun B => (hc3 B).sm (h1 := zu h6 x (.inr (7, [.ref (x + 1), .ref (x + 43), .ref (x + 85), .ref (x + 465), .ref (x + 468), .ref (x + 471), .null, .null, .int (nI 0), .int (nI 0), .int (nI 0), .int (nI 0)]))) (fun q q1 q2 => hkg q (by omega))
  have hc4 := hc4.sm (h1 := zu h6 x (.inr (7, [.ref (x + 1), .ref (x + 43), .ref (x + 85), .ref (x + 465), .ref (x + 468), .ref (x + 471), .null, .null, .int (nI 0), .int (nI 0), .int (nI 0), .int (nI 0)]))) (fun q q1 q2 => hkg q (by omega))
  have hc5 := hc5.sm (h1 := zu h6 x (.inr (7, [.ref (x + 1), .ref (x + 43), .ref (x + 85), .ref (x + 465), .ref (x + 468), .ref (x + 471), .null, .null, .int (nI 0), .int (nI 0), .int (nI 0), .int (nI 0)]))) (fun q q1 q2 => hkg q (by omega))
  have hc6 := hc6.sm (h1 := zu h6 x (.inr (7, [.ref (x + 1), .ref (x + 43), .ref (x + 85), .ref (x + 465), .ref (x + 468), .ref (x + 471), .null, .null, .int (nI 0), .int (nI 0), .int (nI 0), .int (nI 0)]))) (fun q q1 q2 => hkg q (by omega))
  have hfr : ∀ q, q ≠ x → ¬ (x + 1 ≤ q ∧ q < x + 476) → zu h6 x (.inr (7, [.ref (x + 1), .ref (x + 43), .ref (x + 85), .ref (x + 465), .ref (x + 468), .ref (x + 471), .null, .null, .int (nI 0), .int (nI 0), .int (nI 0), .int (nI 0)])) q = h q := fun q q0 q1 => by rw [hkg q q0, hf q (by omega), zu_n (by omega)]; exact hfr q q0 (by omega)
  have hx := hxg
  generalize hg : zu h6 x (.inr (7, [.ref (x + 1), .ref (x + 43), .ref (x + 85), .ref (x + 465), .ref (x + 468), .ref (x + 471), .null, .null, .int (nI 0), .int (nI 0), .int (nI 0), .int (nI 0)])) = g6 at hxg hkg hfr hx hc1 hc2 hc3 hc4 hc5 hc6 ⊢
  clear hg hkg hk hf
  refine zs_aload_n (pc := 70) dX_init_70 rfl ?_
  refine zs_new (pc := 71) (ci := 3) (N := 3) (T := zTL) (fs := [.null, .null, .int (nI 0)]) dX_init_71 rfl zcL_ok kcX_47 (zt1 (i := 214) rfl) (zt1 (i := 8) rfl) zfsL (by omega) (by omega) ?_
  refine zs_dup (pc := 74) dX_init_74 rfl ?_
  refine zcINR_0 (pc := 75) (d2 := d - 1) (s_L_init hl zu_s) dX_init_75 knX_49 mdL_init miL_init rfl rfl rfl (Nat.le_of_ble_eq_true rfl) (by omega) (by omega) (by omega) (fun v h7 n1 hq => ?_) (fun E h7 n1 hq => ?_)
  rotate_left
  · exact absurd hq.1 (by intro q; cases q)
  obtain ⟨hv, hn1, hf, hc7⟩ := hq
  obtain rfl := Sum.inl.inj hv
  obtain rfl : n1 = x + 479 := by omega
  have hk : ∀ q, q < x + 476 → h7 q = g6 q := fun q q1 => by rw [hf q (by omega), zu_n (by omega)]
  have hx : h7 x = some (.inr (7, [.ref (x + 1), .ref (x + 43), .ref (x + 85), .ref (x + 465), .ref (x + 468), .ref (x + 471), .null, .null, .int (nI 0), .int (nI 0), .int (nI 0), .int (nI 0)])) := by rw [hk _ (by omega)]; exact hxg
  have hc1 := hc1.sm (h1 := h7) (fun q q1 q2 => hk q (by omega))
  have hc2 := hc2.sm (h1 := h7) (fun q q1 q2 => hk q (by omega))
  have hc3 := fun B => (hc3 B).sm (h1 := h7) (fun q q1 q2 => hk q (by omega))
  have hc4 := hc4.sm (h1 := h7) (fun q q1 q2 => hk q (by omega))
  have hc5 := hc5.sm (h1 := h7) (fun q q1 q2 => hk q (by omega))
  have hc6 := hc6.sm (h1 := h7) (fun q q1 q2 => hk q (by omega))
  refine zs_putF (pc := 78) (fs2 := [_, _, _, _, _, _, _, _, _, _, _, _]) dX_init_78 rfl fX_50 ⟨_, _, rfl⟩ (by exact hx) (by rfl) (by rfl) (by exact Nat.le_of_ble_eq_true rfl) (by rfl) ?_
  have hxg : zu h7 x (.inr (7, [.ref (x + 1), .ref (x + 43), .ref (x + 85), .ref (x + 465), .ref (x + 468), .ref (x + 471), .ref (x + 476), .null, .int (nI 0), .int (nI 0), .int (nI 0), .int (nI 0)])) x = some (.inr (7, [.ref (x + 1), .ref (x + 43), .ref (x + 85), .ref (x + 465), .ref (x + 468), .ref (x + 471), .ref (x + 476), .null, .int (nI 0), .int (nI 0), .int (nI 0), .int (nI 0)])) := zu_s
  have hkg : ∀ q, q ≠ x → zu h7 x (.inr (7, [.ref (x + 1), .ref (x + 43), .ref (x + 85), .ref (x + 465), .ref (x + 468), .ref (x + 471), .ref (x + 476), .null, .int (nI 0), .int (nI 0), .int (nI 0), .int (nI 0)])) q = h7 q := fun q q1 => zu_n q1
  have hc1 := hc1.sm (h1 := zu h7 x (.inr (7, [.ref (x + 1), .ref (x + 43), .ref (x + 85), .ref (x + 465), .ref (x + 468), .ref (x + 471), .ref (x + 476), .null, .int (nI 0), .int (nI 0), .int (nI 0), .int (nI 0)]))) (fun q q1 q2 => hkg q (by omega))
  have hc2 := hc2.sm (h1 := zu h7 x (.inr (7, [.ref (x + 1), .ref (x + 43), .ref (x + 85), .ref (x + 465), .ref (x + 468), .ref (x + 471), .ref (x + 476), .null, .int (nI 0), .int (nI 0), .int (nI 0), .int (nI 0)]))) (fun q q1 q2 => hkg q (by omega))
  have hc3 := fun B => (hc3 B).sm (h1 := zu h7 x (.inr (7, [.ref (x + 1), .ref (x + 43), .ref (x + 85), .ref (x + 465), .ref (x + 468), .ref (x + 471), .ref (x + 476), .null, .int (nI 0), .int (nI 0), .int (nI 0), .int (nI 0)]))) (fun q q1 q2 => hkg q (by omega))
  have hc4 := hc4.sm (h1 := zu h7 x (.inr (7, [.ref (x + 1), .ref (x + 43), .ref (x + 85), .ref (x + 465), .ref (x + 468), .ref (x + 471), .ref (x + 476), .null, .int (nI 0), .int (nI 0), .int (nI 0), .int (nI 0)]))) (fun q q1 q2 => hkg q (by omega))
  have hc5 := hc5.sm (h1 := zu h7 x (.inr (7, [.ref (x + 1), .ref (x + 43), .ref (x + 85), .ref (x + 465), .ref (x + 468), .ref (x + 471), .ref (x + 476), .null, .int (nI 0), .int (nI 0), .int (nI 0), .int (nI 0)]))) (fun q q1 q2 => hkg q (by omega))
  have hc6 := hc6.sm (h1 := zu h7 x (.inr (7, [.ref (x + 1), .ref (x + 43), .ref (x + 85), .ref (x + 465), .ref (x + 468), .ref (x + 471), .ref (x + 476), .null, .int (nI 0), .int (nI 0), .int (nI 0), .int (nI 0)]))) (fun q q1 q2 => hkg q (by omega))
  have hc7 := hc7.sm (h1 := zu h7 x (.inr (7, [.ref (x + 1), .ref (x + 43), .ref (x + 85), .ref (x + 465), .ref (x + 468), .ref (x + 471), .ref (x + 476), .null, .int (nI 0), .int (nI 0), .int (nI 0), .int (nI 0)]))) (fun q q1 q2 => hkg q (by omega))
  have hfr : ∀ q, q ≠ x → ¬ (x + 1 ≤ q ∧ q < x + 479) → zu h7 x (.inr (7, [.ref (x + 1), .ref (x + 43), .ref (x + 85), .ref (x + 465), .ref (x + 468), .ref (x + 471), .ref (x + 476), .null, .int (nI 0), .int (nI 0), .int (nI 0), .int (nI 0)])) q = h q := fun q q0 q1 => by rw [hkg q q0, hf q (by omega), zu_n (by omega)]; exact hfr q q0 (by omega)
  have hx := hxg
  generalize hg : zu h7 x (.inr (7, [.ref (x + 1), .ref (x + 43), .ref (x + 85), .ref (x + 465), .ref (x + 468), .ref (x + 471), .ref (x + 476), .null, .int (nI 0), .int (nI 0), .int (nI 0), .int (nI 0)])) = g7 at hxg hkg hfr hx hc1 hc2 hc3 hc4 hc5 hc6 hc7 ⊢
  clear hg hkg hk hf
  refine zs_aload_n (pc := 81) dX_init_81 rfl ?_
  refine zs_new (pc := 82) (ci := 1) (N := 7) (T := zTE) (fs := [.int (nI 0), .int (nI 0), .int (nI 0), .int (nI 0), .int (nI 0), .int (nI 0), .null]) dX_init_82 rfl zcE_ok kcX_54 (zt1 (i := 42) rfl) (zt1 (i := 3) rfl) zfsE (by omega) (by omega) ?_
  refine zs_dup (pc := 85) dX_init_85 rfl ?_
  refine zcINR_0 (pc := 86) (d2 := d - 1) (s_E_init hl zu_s (by omega)) dX_init_86 knX_56 mdE_init miE_init rfl rfl rfl (Nat.le_of_ble_eq_true rfl) (by omega) (by omega) (by omega) (fun v h8 n1 hq => ?_) (fun E h8 n1 hq => ?_)
  rotate_left
  · exact absurd hq.1 (by intro q; cases q)
  obtain ⟨hv, hh8, hn1⟩ := hq
  obtain rfl := Sum.inl.inj hv
  obtain rfl : n1 = x + 481 := by omega
  have hc8 : zXag h8 x := by
    subst hh8
    exact ⟨_, zEh_e (by omega), zEh_c⟩
  have hf : zfr (x + 479) 2 g7 h8 := by
    subst hh8
    exact fun q hq => by rw [zEh_n (by omega) (by omega), zu_n (by omega)]
  have hk : ∀ q, q < x + 479 → h8 q = g7 q := fun q q1 => hf q (by omega)
  have hx : h8 x = some (.inr (7, [.ref (x + 1), .ref (x + 43), .ref (x + 85), .ref (x + 465), .ref (x + 468), .ref (x + 471), .ref (x + 476), .null, .int (nI 0), .int (nI 0), .int (nI 0), .int (nI 0)])) := by rw [hk _ (by omega)]; exact hxg
  have hc1 := hc1.sm (h1 := h8) (fun q q1 q2 => hk q (by omega))
  have hc2 := hc2.sm (h1 := h8) (fun q q1 q2 => hk q (by omega))
  have hc3 := fun B => (hc3 B).sm (h1 := h8) (fun q q1 q2 => hk q (by omega))
  have hc4 := hc4.sm (h1 := h8) (fun q q1 q2 => hk q (by omega))
  have hc5 := hc5.sm (h1 := h8) (fun q q1 q2 => hk q (by omega))
  have hc6 := hc6.sm (h1 := h8) (fun q q1 q2 => hk q (by omega))
  have hc7 := hc7.sm (h1 := h8) (fun q q1 q2 => hk q (by omega))
  refine zs_putF (pc := 89) (fs2 := [_, _, _, _, _, _, _, _, _, _, _, _]) dX_init_89 rfl fX_57 ⟨_, _, rfl⟩ (by exact hx) (by rfl) (by rfl) (by exact Nat.le_of_ble_eq_true rfl) (by rfl) ?_
  have hxg : zu h8 x (.inr (7, [.ref (x + 1), .ref (x + 43), .ref (x + 85), .ref (x + 465), .ref (x + 468), .ref (x + 471), .ref (x + 476), .ref (x + 479), .int (nI 0), .int (nI 0), .int (nI 0), .int (nI 0)])) x = some (.inr (7, [.ref (x + 1), .ref (x + 43), .ref (x + 85), .ref (x + 465), .ref (x + 468), .ref (x + 471), .ref (x + 476), .ref (x + 479), .int (nI 0), .int (nI 0), .int (nI 0), .int (nI 0)])) := zu_s
  have hkg : ∀ q, q ≠ x → zu h8 x (.inr (7, [.ref (x + 1), .ref (x + 43), .ref (x + 85), .ref (x + 465), .ref (x + 468), .ref (x + 471), .ref (x + 476), .ref (x + 479), .int (nI 0), .int (nI 0), .int (nI 0), .int (nI 0)])) q = h8 q := fun q q1 => zu_n q1
  have hc1 := hc1.sm (h1 := zu h8 x (.inr (7, [.ref (x + 1), .ref (x + 43), .ref (x + 85), .ref (x + 465), .ref (x + 468), .ref (x + 471), .ref (x + 476), .ref (x + 479), .int (nI 0), .int (nI 0), .int (nI 0), .int (nI 0)]))) (fun q q1 q2 => hkg q (by omega))
  have hc2 := hc2.sm (h1 := zu h8 x (.inr (7, [.ref (x + 1), .ref (x + 43), .ref (x + 85), .ref (x + 465), .ref (x + 468), .ref (x + 471), .ref (x + 476), .ref (x + 479), .int (nI 0), .int (nI 0), .int (nI 0), .int (nI 0)]))) (fun q q1 q2 => hkg q (by omega))
  have hc3 := fun B => (hc3 B).sm (h1 := zu h8 x (.inr (7, [.ref (x + 1), .ref (x + 43), .ref (x + 85), .ref (x + 465), .ref (x + 468), .ref (x + 471), .ref (x + 476), .ref (x + 479), .int (nI 0), .int (nI 0), .int (nI 0), .int (nI 0)]))) (fun q q1 q2 => hkg q (by omega))
  have hc4 := hc4.sm (h1 := zu h8 x (.inr (7, [.ref (x + 1), .ref (x + 43), .ref (x + 85), .ref (x + 465), .ref (x + 468), .ref (x + 471), .ref (x + 476), .ref (x + 479), .int (nI 0), .int (nI 0), .int (nI 0), .int (nI 0)]))) (fun q q1 q2 => hkg q (by omega))
  have hc5 := hc5.sm (h1 := zu h8 x (.inr (7, [.ref (x + 1), .ref (x + 43), .ref (x + 85), .ref (x + 465), .ref (x + 468), .ref (x + 471), .ref (x + 476), .ref (x + 479), .int (nI 0), .int (nI 0), .int (nI 0), .int (nI 0)]))) (fun q q1 q2 => hkg q (by omega))
  have hc6 := hc6.sm (h1 := zu h8 x (.inr (7, [.ref (x + 1), .ref (x + 43), .ref (x + 85), .ref (x + 465), .ref (x + 468), .ref (x + 471), .ref (x + 476), .ref (x + 479), .int (nI 0), .int (nI 0), .int (nI 0), .int (nI 0)]))) (fun q q1 q2 => hkg q (by omega))
  have hc7 := hc7.sm (h1 := zu h8 x (.inr (7, [.ref (x + 1), .ref (x + 43), .ref (x + 85), .ref (x + 465), .ref (x + 468), .ref (x + 471), .ref (x + 476), .ref (x + 479), .int (nI 0), .int (nI 0), .int (nI 0), .int (nI 0)]))) (fun q q1 q2 => hkg q (by omega))
  have hc8 := hc8.sm (h1 := zu h8 x (.inr (7, [.ref (x + 1), .ref (x + 43), .ref (x + 85), .ref (x + 465), .ref (x + 468), .ref (x + 471), .ref (x + 476), .ref (x + 479), .int (nI 0), .int (nI 0), .int (nI 0), .int (nI 0)]))) (fun q q1 q2 => hkg q (by omega))
  have hfr : ∀ q, q ≠ x → ¬ (x + 1 ≤ q ∧ q < x + 481) → zu h8 x (.inr (7, [.ref (x + 1), .ref (x + 43), .ref (x + 85), .ref (x + 465), .ref (x + 468), .ref (x + 471), .ref (x + 476), .ref (x + 479), .int (nI 0), .int (nI 0), .int (nI 0), .int (nI 0)])) q = h q := fun q q0 q1 => by rw [hkg q q0, hf q (by omega)]; exact hfr q q0 (by omega)
  refine zs_aload_n (pc := 92) dX_init_92 rfl ?_
  refine zs_iconst (pc := 93) dX_init_93 zi_0 ?_
  refine zs_putU (pc := 94) (fs2 := [_, _, _, _, _, _, _, _, _, _, _, _]) dX_init_94 fX_61 (by rfl) (by rfl) (by exact Nat.le_of_ble_eq_true rfl) (by rfl) ?_
  refine zs_aload_n (pc := 97) dX_init_97 rfl ?_
  refine zs_iconst (pc := 98) dX_init_98 zi_0 ?_
  refine zs_putU (pc := 99) (fs2 := [_, _, _, _, _, _, _, _, _, _, _, _]) dX_init_99 fX_65 (by rfl) (by rfl) (by exact Nat.le_of_ble_eq_true rfl) (by rfl) ?_
  refine zs_aload_n (pc := 102) dX_init_102 rfl ?_
  refine zs_iconst (pc := 103) dX_init_103 zi_m1 ?_
  refine zs_putU (pc := 104) (fs2 := [_, _, _, _, _, _, _, _, _, _, _, _]) dX_init_104 fX_68 (by rfl) (by rfl) (by exact Nat.le_of_ble_eq_true rfl) (by rfl) ?_
  refine zs_aload_n (pc := 107) dX_init_107 rfl ?_
  refine zs_iconst (pc := 108) dX_init_108 zi_m1 ?_
  refine zs_putU (pc := 109) (fs2 := [_, _, _, _, _, _, _, _, _, _, _, _]) dX_init_109 fX_72 (by rfl) (by rfl) (by exact Nat.le_of_ble_eq_true rfl) (by rfl) ?_
  have hkz : ∀ q, q ≠ x → zu h8 x (zXo x 0 false none none) q = zu h8 x (.inr (7, [.ref (x + 1), .ref (x + 43), .ref (x + 85), .ref (x + 465), .ref (x + 468), .ref (x + 471), .ref (x + 476), .ref (x + 479), .int (nI 0), .int (nI 0), .int (nI 0), .int (nI 0)])) q := fun q q1 => by rw [zu_n q1, zu_n q1]
  exact zs_vret (pc := 112) dX_init_112 rfl (by omega) (by omega) (⟨rfl, rfl, fun q hq => (hkz q (by omega)).trans (hfr q (by omega) (by omega)), ⟨0, by decide, zu_s, _, _, hc4.sm (fun q q1 q2 => hkz q (by omega)), fun _ => ⟨rfl, zCj_0.symm⟩⟩, (CR.new hc1).sm (fun q q1 q2 => hkz q (by omega)), IG.zero, ⟨zg0, (CR.new hc2).sm (fun q q1 q2 => hkz q (by omega)), IG.zero, fun s2 e => (by cases e)⟩, (hc3 B).sm (fun q q1 q2 => hkz q (by omega)), ⟨_, _, _, hc5.sm (fun q q1 q2 => hkz q (by omega))⟩, ⟨_, _, _, _, _, _, _, hc6.sm (fun q q1 q2 => hkz q (by omega))⟩, Nat.zero_le _, fun i hi => absurd hi (by omega), hc7.sm (fun q q1 q2 => hkz q (by omega)), hc8.sm (fun q q1 q2 => hkz q (by omega))⟩)

