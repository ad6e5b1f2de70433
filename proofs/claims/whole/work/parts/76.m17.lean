/-! the model's parser: a command -/
/-- what the reading of a command's arguments leaves -/
def yQa (h : zH) (n a : Nat) (g : Nat → Nat) (s3 s5 s6 s7 s8 s10 s12 s16 : Int32) (np k to : Nat) (C : Nat → Nat) (r : Bool × Nat × Nat × Nat) : zQ := fun o h1 n1 => o = .inl none ∧ n1 = n ∧ ∃ (C' : Nat → Nat) (s20 : Int32), h1 = (z2 (zu h (a + 9) (zAr 0 183 C')) a (zAr 0 246 (g)) (zMo a s3 s5 s6 s7 s8 s10 s12 s16 (nI r.2.1) (nI np) (nI (ywr r.1)) s20)) ∧ (∀ i, i < to → C' i = C i) ∧ (r.1 = true → (k ≠ 6 → C' to = r.2.2.1) ∧ ((k = 1 ∨ k = 2 ∨ k = 5 ∨ k = 8) → C' (to + 1) = r.2.2.2))
theorem zrd_1 {T : Nat → Nat} {np po : Nat} : zrd T np 1 po 0 0 = if po < np ∧ 48 ≤ T po ∧ T po ≤ 57 then (po + 1, 1, T po - 48) else (po, 0, 0) := by
  show (if _ then (po + 1, 0 + 1, 10 * 0 + (T po - 48)) else _) = _
  rw [show 10 * 0 + (T po - 48) = T po - 48 by omega]
theorem zrn_s {T : Nat → Nat} {np m q : Nat} (h : q < np ∧ T q = 32) : zrn T np m q = (decide (0 < (zrd T np m (q + 1) 0 0).2.1), zrd T np m (q + 1) 0 0) := if_pos h

theorem s_M_readArguments_0 {Γ : zG} {l : Launch} (hl : l.stackTraces = false) {d : Nat} (hd : 4 ≤ d) {h : zH} {n a : Nat} {g : Nat → Nat} {s3 s5 s6 s7 s8 s10 s12 s16 s20 : Int32} {T C : Nat → Nat} {q np to : Nat} (hT : h (a + 5) = some (zAr 0 60 T)) (hn : np ≤ 60) (hc : ∀ i, i < np → T i < 128) (hto : to + 1 < 183) (hq : q < np ∧ T q = 32) : zC Γ l d mM_readArguments [.ref a, .int (nI 0), .int (nI to)] (z2 (zu h (a + 9) (zAr 0 183 C)) a (zAr 0 246 (g)) (zMo a s3 s5 s6 s7 s8 s10 s12 s16 (nI (q + 1)) (nI np) (nI 0) s20)) n 0 0 (yQa h n a g s3 s5 s6 s7 s8 s10 s12 s16 np 0 to C (zpa T np 0 q)) := by
  have hT9 : zu h (a + 9) (zAr 0 183 C) (a + 5) = some (zAr 0 60 T) := by rw [zu_n (by omega)]; exact hT
  have ez : zpa T np 0 q = ((zrn T np 1 q).1, (zrn T np 1 q).2.1, (zrn T np 1 q).2.2.2, 0) := rfl
  rw [ez, zrn_s hq, zrd_1]
  refine zC_of (ls := [some (.ref a), some (.int (nI 0)), some (.int (nI to)), none]) hl (by decide +kernel) rfl (Nat.le_of_ble_eq_true rfl) rfl ?_
  by_cases e : q + 1 < np ∧ 48 ≤ T (q + 1) ∧ T (q + 1) ≤ 57
  · rw [if_pos e]
    refine zs_iload_n (pc := 0) dM_readArguments_0 rfl ?_
    refine zs_tableIn (pc := 1) (off := 55) 56 dM_readArguments_1 (by decide) (by decide) (by decide) rfl ?_
    refine zs_aload_n (pc := 56) dM_readArguments_56 rfl ?_
    refine zs_get (pc := 57) dM_readArguments_57 fM_42 (by first | exact z2_a | exact z2_1 | (rw [z2_n (by omega) (by omega)]; exact zu_s) | (rw [z2_n (by omega) (by omega), zu_n (by omega)]; exact hT) | (rw [z2_n (by omega) (by omega), zu_n (by omega)]; exact hB8) | (rw [z2_n (by omega) (by omega), zu_n (by omega)]; exact hL7)) (by rfl) ?_
    refine zs_iload_n (pc := 60) dM_readArguments_60 rfl ?_
    refine zs_aload_n (pc := 61) dM_readArguments_61 rfl ?_
    refine zcV1_0 (pc := 62) (d2 := d - 1) (s_M_digit_y hl (by omega) hT9 hn e) dM_readArguments_62 kM_219 mdM_digit miM_digit mvM_digit rfl (by exact z2_a) rfl (Nat.le_of_ble_eq_true rfl) (by omega) (by omega) (by omega) ?_
    refine zn_iast (pc := 65) dM_readArguments_65 (by first | exact z2_a | exact z2_1 | (rw [z2_n (by omega) (by omega)]; exact zu_s) | (rw [z2_n (by omega) (by omega), zu_n (by omega)]; exact hT) | (rw [z2_n (by omega) (by omega), zu_n (by omega)]; exact hB8) | (rw [z2_n (by omega) (by omega), zu_n (by omega)]; exact hL7)) (by omega) (by first | decide | assumption) ?_
    first | rw [z2_G] | rw [z2_q2] | rw [z2_q3] | rw [z2_q4] | rw [z2_q5] | rw [z2_q6] | rw [z2_q9]
    rw [zu_zu]
    refine zs_goto (pc := 66) 163 dM_readArguments_66 rfl ?_
    exact zs_vret (pc := 163) dM_readArguments_163 rfl (by omega) (by omega) (⟨rfl, rfl, _, _, rfl, fun i hi => zup_n (by omega), fun _ => ⟨fun _ => zup_s, fun q => by omega⟩⟩)
  · rw [if_neg e]
    refine zs_iload_n (pc := 0) dM_readArguments_0 rfl ?_
    refine zs_tableIn (pc := 1) (off := 55) 56 dM_readArguments_1 (by decide) (by decide) (by decide) rfl ?_
    refine zs_aload_n (pc := 56) dM_readArguments_56 rfl ?_
    refine zs_get (pc := 57) dM_readArguments_57 fM_42 (by first | exact z2_a | exact z2_1 | (rw [z2_n (by omega) (by omega)]; exact zu_s) | (rw [z2_n (by omega) (by omega), zu_n (by omega)]; exact hT) | (rw [z2_n (by omega) (by omega), zu_n (by omega)]; exact hB8) | (rw [z2_n (by omega) (by omega), zu_n (by omega)]; exact hL7)) (by rfl) ?_
    refine zs_iload_n (pc := 60) dM_readArguments_60 rfl ?_
    refine zs_aload_n (pc := 61) dM_readArguments_61 rfl ?_
    refine zcV1_0 (pc := 62) (d2 := d - 1) (s_M_digit_n hl (by omega) hT9 hn hc (by omega) e) dM_readArguments_62 kM_219 mdM_digit miM_digit mvM_digit rfl (by exact z2_a) rfl (Nat.le_of_ble_eq_true rfl) (by omega) (by omega) (by omega) ?_
    refine zn_iast (pc := 65) dM_readArguments_65 (by first | exact z2_a | exact z2_1 | (rw [z2_n (by omega) (by omega)]; exact zu_s) | (rw [z2_n (by omega) (by omega), zu_n (by omega)]; exact hT) | (rw [z2_n (by omega) (by omega), zu_n (by omega)]; exact hB8) | (rw [z2_n (by omega) (by omega), zu_n (by omega)]; exact hL7)) (by omega) (by first | decide | assumption) ?_
    first | rw [z2_G] | rw [z2_q2] | rw [z2_q3] | rw [z2_q4] | rw [z2_q5] | rw [z2_q6] | rw [z2_q9]
    rw [zu_zu]
    refine zs_goto (pc := 66) 163 dM_readArguments_66 rfl ?_
    exact zs_vret (pc := 163) dM_readArguments_163 rfl (by omega) (by omega) (⟨rfl, rfl, _, _, rfl, fun i hi => zup_n (by omega), fun q => by cases q⟩)
theorem s_M_readArguments_7 {Γ : zG} {l : Launch} (hl : l.stackTraces = false) {d : Nat} (hd : 4 ≤ d) {h : zH} {n a : Nat} {g : Nat → Nat} {s3 s5 s6 s7 s8 s10 s12 s16 s20 : Int32} {T C : Nat → Nat} {q np to : Nat} (hT : h (a + 5) = some (zAr 0 60 T)) (hn : np ≤ 60) (hc : ∀ i, i < np → T i < 128) (hto : to + 1 < 183) (hq : q < np ∧ T q = 32) : zC Γ l d mM_readArguments [.ref a, .int (nI 7), .int (nI to)] (z2 (zu h (a + 9) (zAr 0 183 C)) a (zAr 0 246 (g)) (zMo a s3 s5 s6 s7 s8 s10 s12 s16 (nI (q + 1)) (nI np) (nI 0) s20)) n 0 0 (yQa h n a g s3 s5 s6 s7 s8 s10 s12 s16 np 7 to C (zpa T np 7 q)) := by
  have hT9 : zu h (a + 9) (zAr 0 183 C) (a + 5) = some (zAr 0 60 T) := by rw [zu_n (by omega)]; exact hT
  have ez : zpa T np 7 q = ((zrn T np 1 q).1, (zrn T np 1 q).2.1, (zrn T np 1 q).2.2.2, 0) := rfl
  rw [ez, zrn_s hq, zrd_1]
  refine zC_of (ls := [some (.ref a), some (.int (nI 7)), some (.int (nI to)), none]) hl (by decide +kernel) rfl (Nat.le_of_ble_eq_true rfl) rfl ?_
  by_cases e : q + 1 < np ∧ 48 ≤ T (q + 1) ∧ T (q + 1) ≤ 57
  · rw [if_pos e]
    refine zs_iload_n (pc := 0) dM_readArguments_0 rfl ?_
    refine zs_tableIn (pc := 1) (off := 55) 56 dM_readArguments_1 (by decide) (by decide) (by decide) rfl ?_
    refine zs_aload_n (pc := 56) dM_readArguments_56 rfl ?_
    refine zs_get (pc := 57) dM_readArguments_57 fM_42 (by first | exact z2_a | exact z2_1 | (rw [z2_n (by omega) (by omega)]; exact zu_s) | (rw [z2_n (by omega) (by omega), zu_n (by omega)]; exact hT) | (rw [z2_n (by omega) (by omega), zu_n (by omega)]; exact hB8) | (rw [z2_n (by omega) (by omega), zu_n (by omega)]; exact hL7)) (by rfl) ?_
    refine zs_iload_n (pc := 60) dM_readArguments_60 rfl ?_
    refine zs_aload_n (pc := 61) dM_readArguments_61 rfl ?_
    refine zcV1_0 (pc := 62) (d2 := d - 1) (s_M_digit_y hl (by omega) hT9 hn e) dM_readArguments_62 kM_219 mdM_digit miM_digit mvM_digit rfl (by exact z2_a) rfl (Nat.le_of_ble_eq_true rfl) (by omega) (by omega) (by omega) ?_
    refine zn_iast (pc := 65) dM_readArguments_65 (by first | exact z2_a | exact z2_1 | (rw [z2_n (by omega) (by omega)]; exact zu_s) | (rw [z2_n (by omega) (by omega), zu_n (by omega)]; exact hT) | (rw [z2_n (by omega) (by omega), zu_n (by omega)]; exact hB8) | (rw [z2_n (by omega) (by omega), zu_n (by omega)]; exact hL7)) (by omega) (by first | decide | assumption) ?_
    first | rw [z2_G] | rw [z2_q2] | rw [z2_q3] | rw [z2_q4] | rw [z2_q5] | rw [z2_q6] | rw [z2_q9]
    rw [zu_zu]
    refine zs_goto (pc := 66) 163 dM_readArguments_66 rfl ?_
    exact zs_vret (pc := 163) dM_readArguments_163 rfl (by omega) (by omega) (⟨rfl, rfl, _, _, rfl, fun i hi => zup_n (by omega), fun _ => ⟨fun _ => zup_s, fun q => by omega⟩⟩)
  · rw [if_neg e]
    refine zs_iload_n (pc := 0) dM_readArguments_0 rfl ?_
    refine zs_tableIn (pc := 1) (off := 55) 56 dM_readArguments_1 (by decide) (by decide) (by decide) rfl ?_
    refine zs_aload_n (pc := 56) dM_readArguments_56 rfl ?_
    refine zs_get (pc := 57) dM_readArguments_57 fM_42 (by first | exact z2_a | exact z2_1 | (rw [z2_n (by omega) (by omega)]; exact zu_s) | (rw [z2_n (by omega) (by omega), zu_n (by omega)]; exact hT) | (rw [z2_n (by omega) (by omega), zu_n (by omega)]; exact hB8) | (rw [z2_n (by omega) (by omega), zu_n (by omega)]; exact hL7)) (by rfl) ?_
    refine zs_iload_n (pc := 60) dM_readArguments_60 rfl ?_
    refine zs_aload_n (pc := 61) dM_readArguments_61 rfl ?_
    refine zcV1_0 (pc := 62) (d2 := d - 1) (s_M_digit_n hl (by omega) hT9 hn hc (by omega) e) dM_readArguments_62 kM_219 mdM_digit miM_digit mvM_digit rfl (by exact z2_a) rfl (Nat.le_of_ble_eq_true rfl) (by omega) (by omega) (by omega) ?_
    refine zn_iast (pc := 65) dM_readArguments_65 (by first | exact z2_a | exact z2_1 | (rw [z2_n (by omega) (by omega)]; exact zu_s) | (rw [z2_n (by omega) (by omega), zu_n (by omega)]; exact hT) | (rw [z2_n (by omega) (by omega), zu_n (by omega)]; exact hB8) | (rw [z2_n (by omega) (by omega), zu_n (by omega)]; exact hL7)) (by omega) (by first | decide | assumption) ?_
    first | rw [z2_G] | rw [z2_q2] | rw [z2_q3] | rw [z2_q4] | rw [z2_q5] | rw [z2_q6] | rw [z2_q9]
    rw [zu_zu]
    refine zs_goto (pc := 66) 163 dM_readArguments_66 rfl ?_
    exact zs_vret (pc := 163) dM_readArguments_163 rfl (by omega) (by omega) (⟨rfl, rfl, _, _, rfl, fun i hi => zup_n (by omega), fun q => by cases q⟩)
theorem s_M_readArguments_3 {Γ : zG} {l : Launch} (hl : l.stackTraces = false) {d : Nat} (hd : 4 ≤ d) {h : zH} {n a : Nat} {g : Nat → Nat} {s3 s5 s6 s7 s8 s10 s12 s16 s20 : Int32} {T C : Nat → Nat} {q np to : Nat} (hT : h (a + 5) = some (zAr 0 60 T)) (hn : np ≤ 60) (hc : ∀ i, i < np → T i < 128) (hto : to + 1 < 183) (hq : q < np ∧ T q = 32) : zC Γ l d mM_readArguments [.ref a, .int (nI 3), .int (nI to)] (z2 (zu h (a + 9) (zAr 0 183 C)) a (zAr 0 246 (g)) (zMo a s3 s5 s6 s7 s8 s10 s12 s16 (nI (q + 1)) (nI np) (nI 0) s20)) n 0 0 (yQa h n a g s3 s5 s6 s7 s8 s10 s12 s16 np 3 to C (zpa T np 3 q)) := by
  have hT9 : zu h (a + 9) (zAr 0 183 C) (a + 5) = some (zAr 0 60 T) := by rw [zu_n (by omega)]; exact hT
  have ez : zpa T np 3 q = ((zrn T np 3 q).1, (zrn T np 3 q).2.1, (zrn T np 3 q).2.2.2, 0) := rfl
  rw [ez, zrn_s hq]
  refine zC_of (ls := [some (.ref a), some (.int (nI 3)), some (.int (nI to)), none]) hl (by decide +kernel) rfl (Nat.le_of_ble_eq_true rfl) rfl ?_
  refine zs_iload_n (pc := 0) dM_readArguments_0 rfl ?_
  refine zs_tableIn (pc := 1) (off := 93) 94 dM_readArguments_1 (by decide) (by decide) (by decide) rfl ?_
  refine zs_aload_n (pc := 94) dM_readArguments_94 rfl ?_
  refine zs_get (pc := 95) dM_readArguments_95 fM_42 (by first | exact z2_a | exact z2_1 | (rw [z2_n (by omega) (by omega)]; exact zu_s) | (rw [z2_n (by omega) (by omega), zu_n (by omega)]; exact hT) | (rw [z2_n (by omega) (by omega), zu_n (by omega)]; exact hB8) | (rw [z2_n (by omega) (by omega), zu_n (by omega)]; exact hL7)) (by rfl) ?_
  refine zs_iload_n (pc := 98) dM_readArguments_98 rfl ?_
  refine zs_aload_n (pc := 99) dM_readArguments_99 rfl ?_
  refine zcV1_0 (pc := 100) (d2 := d - 1) (s_M_number hl (by omega) hT9 hn hc (by omega)) dM_readArguments_100 kM_228 mdM_number miM_number mvM_number rfl (by exact z2_a) rfl (Nat.le_of_ble_eq_true rfl) (by omega) (by omega) (by omega) ?_
  refine zn_iast (pc := 103) dM_readArguments_103 (by first | exact z2_a | exact z2_1 | (rw [z2_n (by omega) (by omega)]; exact zu_s) | (rw [z2_n (by omega) (by omega), zu_n (by omega)]; exact hT) | (rw [z2_n (by omega) (by omega), zu_n (by omega)]; exact hB8) | (rw [z2_n (by omega) (by omega), zu_n (by omega)]; exact hL7)) (by omega) (by first | decide | assumption) ?_
  first | rw [z2_G] | rw [z2_q2] | rw [z2_q3] | rw [z2_q4] | rw [z2_q5] | rw [z2_q6] | rw [z2_q9]
  rw [zu_zu]
  refine zs_goto (pc := 104) 163 dM_readArguments_104 rfl ?_
  exact zs_vret (pc := 163) dM_readArguments_163 rfl (by omega) (by omega) (⟨rfl, rfl, _, _, rfl, fun i hi => zup_n (by omega), fun _ => ⟨fun _ => zup_s, fun q => by omega⟩⟩)
theorem s_M_readArguments_4 {Γ : zG} {l : Launch} (hl : l.stackTraces = false) {d : Nat} (hd : 4 ≤ d) {h : zH} {n a : Nat} {g : Nat → Nat} {s3 s5 s6 s7 s8 s10 s12 s16 s20 : Int32} {T C : Nat → Nat} {q np to : Nat} (hT : h (a + 5) = some (zAr 0 60 T)) (hn : np ≤ 60) (hc : ∀ i, i < np → T i < 128) (hto : to + 1 < 183) (hq : q < np ∧ T q = 32) : zC Γ l d mM_readArguments [.ref a, .int (nI 4), .int (nI to)] (z2 (zu h (a + 9) (zAr 0 183 C)) a (zAr 0 246 (g)) (zMo a s3 s5 s6 s7 s8 s10 s12 s16 (nI (q + 1)) (nI np) (nI 0) s20)) n 0 0 (yQa h n a g s3 s5 s6 s7 s8 s10 s12 s16 np 4 to C (zpa T np 4 q)) := by
  have hT9 : zu h (a + 9) (zAr 0 183 C) (a + 5) = some (zAr 0 60 T) := by rw [zu_n (by omega)]; exact hT
  have ez : zpa T np 4 q = ((zrn T np 3 q).1, (zrn T np 3 q).2.1, (zrn T np 3 q).2.2.2, 0) := rfl
  rw [ez, zrn_s hq]
  refine zC_of (ls := [some (.ref a), some (.int (nI 4)), some (.int (nI to)), none]) hl (by decide +kernel) rfl (Nat.le_of_ble_eq_true rfl) rfl ?_
  refine zs_iload_n (pc := 0) dM_readArguments_0 rfl ?_
  refine zs_tableIn (pc := 1) (off := 93) 94 dM_readArguments_1 (by decide) (by decide) (by decide) rfl ?_
  refine zs_aload_n (pc := 94) dM_readArguments_94 rfl ?_
  refine zs_get (pc := 95) dM_readArguments_95 fM_42 (by first | exact z2_a | exact z2_1 | (rw [z2_n (by omega) (by omega)]; exact zu_s) | (rw [z2_n (by omega) (by omega), zu_n (by omega)]; exact hT) | (rw [z2_n (by omega) (by omega), zu_n (by omega)]; exact hB8) | (rw [z2_n (by omega) (by omega), zu_n (by omega)]; exact hL7)) (by rfl) ?_
  refine zs_iload_n (pc := 98) dM_readArguments_98 rfl ?_
  refine zs_aload_n (pc := 99) dM_readArguments_99 rfl ?_
  refine zcV1_0 (pc := 100) (d2 := d - 1) (s_M_number hl (by omega) hT9 hn hc (by omega)) dM_readArguments_100 kM_228 mdM_number miM_number mvM_number rfl (by exact z2_a) rfl (Nat.le_of_ble_eq_true rfl) (by omega) (by omega) (by omega) ?_
  refine zn_iast (pc := 103) dM_readArguments_103 (by first | exact z2_a | exact z2_1 | (rw [z2_n (by omega) (by omega)]; exact zu_s) | (rw [z2_n (by omega) (by omega), zu_n (by omega)]; exact hT) | (rw [z2_n (by omega) (by omega), zu_n (by omega)]; exact hB8) | (rw [z2_n (by omega) (by omega), zu_n (by omega)]; exact hL7)) (by omega) (by first | decide | assumption) ?_
  first | rw [z2_G] | rw [z2_q2] | rw [z2_q3] | rw [z2_q4] | rw [z2_q5] | rw [z2_q6] | rw [z2_q9]
  rw [zu_zu]
  refine zs_goto (pc := 104) 163 dM_readArguments_104 rfl ?_
  exact zs_vret (pc := 163) dM_readArguments_163 rfl (by omega) (by omega) (⟨rfl, rfl, _, _, rfl, fun i hi => zup_n (by omega), fun _ => ⟨fun _ => zup_s, fun q => by omega⟩⟩)
theorem s_M_readArguments_9 {Γ : zG} {l : Launch} (hl : l.stackTraces = false) {d : Nat} (hd : 4 ≤ d) {h : zH} {n a : Nat} {g : Nat → Nat} {s3 s5 s6 s7 s8 s10 s12 s16 s20 : Int32} {T C : Nat → Nat} {q np to : Nat} (hT : h (a + 5) = some (zAr 0 60 T)) (hn : np ≤ 60) (hc : ∀ i, i < np → T i < 128) (hto : to + 1 < 183) (hq : q < np ∧ T q = 32) : zC Γ l d mM_readArguments [.ref a, .int (nI 9), .int (nI to)] (z2 (zu h (a + 9) (zAr 0 183 C)) a (zAr 0 246 (g)) (zMo a s3 s5 s6 s7 s8 s10 s12 s16 (nI (q + 1)) (nI np) (nI 0) s20)) n 0 0 (yQa h n a g s3 s5 s6 s7 s8 s10 s12 s16 np 9 to C (zpa T np 9 q)) := by
  have hT9 : zu h (a + 9) (zAr 0 183 C) (a + 5) = some (zAr 0 60 T) := by rw [zu_n (by omega)]; exact hT
  have ez : zpa T np 9 q = ((zrn T np 3 q).1, (zrn T np 3 q).2.1, (zrn T np 3 q).2.2.2, 0) := rfl
  rw [ez, zrn_s hq]
  refine zC_of (ls := [some (.ref a), some (.int (nI 9)), some (.int (nI to)), none]) hl (by decide +kernel) rfl (Nat.le_of_ble_eq_true rfl) rfl ?_
  refine zs_iload_n (pc := 0) dM_readArguments_0 rfl ?_
  refine zs_tableIn (pc := 1) (off := 93) 94 dM_readArguments_1 (by decide) (by decide) (by decide) rfl ?_
  refine zs_aload_n (pc := 94) dM_readArguments_94 rfl ?_
  refine zs_get (pc := 95) dM_readArguments_95 fM_42 (by first | exact z2_a | exact z2_1 | (rw [z2_n (by omega) (by omega)]; exact zu_s) | (rw [z2_n (by omega) (by omega), zu_n (by omega)]; exact hT) | (rw [z2_n (by omega) (by omega), zu_n (by omega)]; exact hB8) | (rw [z2_n (by omega) (by omega), zu_n (by omega)]; exact hL7)) (by rfl) ?_
  refine zs_iload_n (pc := 98) dM_readArguments_98 rfl ?_
  refine zs_aload_n (pc := 99) dM_readArguments_99 rfl ?_
  refine zcV1_0 (pc := 100) (d2 := d - 1) (s_M_number hl (by omega) hT9 hn hc (by omega)) dM_readArguments_100 kM_228 mdM_number miM_number mvM_number rfl (by exact z2_a) rfl (Nat.le_of_ble_eq_true rfl) (by omega) (by omega) (by omega) ?_
  refine zn_iast (pc := 103) dM_readArguments_103 (by first | exact z2_a | exact z2_1 | (rw [z2_n (by omega) (by omega)]; exact zu_s) | (rw [z2_n (by omega) (by omega), zu_n (by omega)]; exact hT) | (rw [z2_n (by omega) (by omega), zu_n (by omega)]; exact hB8) | (rw [z2_n (by omega) (by omega), zu_n (by omega)]; exact hL7)) (by omega) (by first | decide | assumption) ?_
  first | rw [z2_G] | rw [z2_q2] | rw [z2_q3] | rw [z2_q4] | rw [z2_q5] | rw [z2_q6] | rw [z2_q9]
  rw [zu_zu]
  refine zs_goto (pc := 104) 163 dM_readArguments_104 rfl ?_
  exact zs_vret (pc := 163) dM_readArguments_163 rfl (by omega) (by omega) (⟨rfl, rfl, _, _, rfl, fun i hi => zup_n (by omega), fun _ => ⟨fun _ => zup_s, fun q => by omega⟩⟩)
theorem s_M_readArguments_6 {Γ : zG} {l : Launch} (hl : l.stackTraces = false) {d : Nat} (hd : 4 ≤ d) {h : zH} {n a : Nat} {g : Nat → Nat} {s3 s5 s6 s7 s8 s10 s12 s16 s20 : Int32} {T C : Nat → Nat} {q np to : Nat} (hT : h (a + 5) = some (zAr 0 60 T)) (hn : np ≤ 60) (hc : ∀ i, i < np → T i < 128) (hto : to + 1 < 183)  : zC Γ l d mM_readArguments [.ref a, .int (nI 6), .int (nI to)] (z2 (zu h (a + 9) (zAr 0 183 C)) a (zAr 0 246 (g)) (zMo a s3 s5 s6 s7 s8 s10 s12 s16 (nI q) (nI np) (nI 0) s20)) n 0 0 (yQa h n a g s3 s5 s6 s7 s8 s10 s12 s16 np 6 to C (zpa T np 6 q)) := by
  refine zC_of (ls := [some (.ref a), some (.int (nI 6)), some (.int (nI to)), none]) hl (by decide +kernel) rfl (Nat.le_of_ble_eq_true rfl) rfl ?_
  refine zs_iload_n (pc := 0) dM_readArguments_0 rfl ?_
  refine zs_tableIn (pc := 1) (off := 162) 163 dM_readArguments_1 (by decide) (by decide) (by decide) rfl ?_
  exact zs_vret (pc := 163) dM_readArguments_163 rfl (by omega) (by omega) (⟨rfl, rfl, C, _, rfl, fun i hi => rfl, fun _ => ⟨fun q => absurd rfl q, fun q => by omega⟩⟩)
theorem s_M_readArguments_1 {Γ : zG} {l : Launch} (hl : l.stackTraces = false) {d : Nat} (hd : 4 ≤ d) {h : zH} {n a : Nat} {g : Nat → Nat} {s3 s5 s6 s7 s8 s10 s12 s16 s20 : Int32} {T C : Nat → Nat} {q np to : Nat} (hT : h (a + 5) = some (zAr 0 60 T)) (hn : np ≤ 60) (hc : ∀ i, i < np → T i < 128) (hto : to + 1 < 183) (hq : q < np ∧ T q = 32) : zC Γ l d mM_readArguments [.ref a, .int (nI 1), .int (nI to)] (z2 (zu h (a + 9) (zAr 0 183 C)) a (zAr 0 246 (g)) (zMo a s3 s5 s6 s7 s8 s10 s12 s16 (nI (q + 1)) (nI np) (nI 0) s20)) n 0 0 (yQa h n a g s3 s5 s6 s7 s8 s10 s12 s16 np 1 to C (zpa T np 1 q)) := by
  have hT9 : zu h (a + 9) (zAr 0 183 C) (a + 5) = some (zAr 0 60 T) := by rw [zu_n (by omega)]; exact hT
  have ez : zpa T np 1 q = (if (zrn T np 3 q).1 = true then ((zrn T np 3 (zrn T np 3 q).2.1).1, (zrn T np 3 (zrn T np 3 q).2.1).2.1, (zrn T np 3 q).2.2.2, (zrn T np 3 (zrn T np 3 q).2.1).2.2.2) else (false, (zrn T np 3 q).2.1, 0, 0)) := rfl
  have hr := zrd_ok (T := T) (n := np) 3 (q + 1) 0 0 (by omega)
  rw [ez, zrn_s hq]
  have hT8 : ∀ x, zu h (a + 9) (zAr 0 183 (zup C to x)) (a + 5) = some (zAr 0 60 T) := fun x => by rw [zu_n (by omega)]; exact hT
  refine zC_of (ls := [some (.ref a), some (.int (nI 1)), some (.int (nI to)), none]) hl (by decide +kernel) rfl (Nat.le_of_ble_eq_true rfl) rfl ?_
  refine zs_iload_n (pc := 0) dM_readArguments_0 rfl ?_
  refine zs_tableIn (pc := 1) (off := 68) 69 dM_readArguments_1 (by decide) (by decide) (by decide) rfl ?_
  refine zs_aload_n (pc := 69) dM_readArguments_69 rfl ?_
  refine zs_get (pc := 70) dM_readArguments_70 fM_42 (by first | exact z2_a | exact z2_1 | (rw [z2_n (by omega) (by omega)]; exact zu_s) | (rw [z2_n (by omega) (by omega), zu_n (by omega)]; exact hT) | (rw [z2_n (by omega) (by omega), zu_n (by omega)]; exact hB8) | (rw [z2_n (by omega) (by omega), zu_n (by omega)]; exact hL7)) (by rfl) ?_
  refine zs_iload_n (pc := 73) dM_readArguments_73 rfl ?_
  refine zs_aload_n (pc := 74) dM_readArguments_74 rfl ?_
  refine zcV1_0 (pc := 75) (d2 := d - 1) (s_M_number hl (by omega) hT9 hn hc (by omega)) dM_readArguments_75 kM_228 mdM_number miM_number mvM_number rfl (by exact z2_a) rfl (Nat.le_of_ble_eq_true rfl) (by omega) (by omega) (by omega) ?_
  generalize zrd T np 3 (q + 1) 0 0 = r1 at hr ⊢
  refine zn_iast (pc := 78) dM_readArguments_78 (by first | exact z2_a | exact z2_1 | (rw [z2_n (by omega) (by omega)]; exact zu_s) | (rw [z2_n (by omega) (by omega), zu_n (by omega)]; exact hT) | (rw [z2_n (by omega) (by omega), zu_n (by omega)]; exact hB8) | (rw [z2_n (by omega) (by omega), zu_n (by omega)]; exact hL7)) (by omega) (by first | decide | assumption) ?_
  first | rw [z2_G] | rw [z2_q2] | rw [z2_q3] | rw [z2_q4] | rw [z2_q5] | rw [z2_q6] | rw [z2_q9]
  rw [zu_zu]
  by_cases e : 0 < r1.2.1
  · have e2 : decide (0 < r1.2.1) = true := decide_eq_true e
    rw [e2, if_pos rfl]
    refine zs_aload_n (pc := 79) dM_readArguments_79 rfl ?_
    refine zs_get (pc := 80) dM_readArguments_80 fM_42 (by first | exact z2_a | exact z2_1 | (rw [z2_n (by omega) (by omega)]; exact zu_s) | (rw [z2_n (by omega) (by omega), zu_n (by omega)]; exact hT) | (rw [z2_n (by omega) (by omega), zu_n (by omega)]; exact hB8) | (rw [z2_n (by omega) (by omega), zu_n (by omega)]; exact hL7)) (by rfl) ?_
    refine zs_iload_n (pc := 83) dM_readArguments_83 rfl ?_
    refine zs_iconst (pc := 84) dM_readArguments_84 zi_1 ?_
    refine zn_iadd (pc := 85) dM_readArguments_85 ?_
    refine zs_aload_n (pc := 86) dM_readArguments_86 rfl ?_
    refine zcV1_0 (pc := 87) (d2 := d - 1) (s_M_numberBehind hl (by omega) (hT8 _) hn hc (by omega)) dM_readArguments_87 kM_231 mdM_numberBehind miM_numberBehind mvM_numberBehind rfl (by exact z2_a) rfl (Nat.le_of_ble_eq_true rfl) (by omega) (by omega) (by omega) ?_
    refine zn_iast (pc := 90) dM_readArguments_90 (by first | exact z2_a | exact z2_1 | (rw [z2_n (by omega) (by omega)]; exact zu_s) | (rw [z2_n (by omega) (by omega), zu_n (by omega)]; exact hT) | (rw [z2_n (by omega) (by omega), zu_n (by omega)]; exact hB8) | (rw [z2_n (by omega) (by omega), zu_n (by omega)]; exact hL7)) (by omega) (by first | decide | assumption) ?_
    first | rw [z2_G] | rw [z2_q2] | rw [z2_q3] | rw [z2_q4] | rw [z2_q5] | rw [z2_q6] | rw [z2_q9]
    rw [zu_zu]
    refine zs_goto (pc := 91) 163 dM_readArguments_91 rfl ?_
    exact zs_vret (pc := 163) dM_readArguments_163 rfl (by omega) (by omega) (⟨rfl, rfl, _, _, rfl, fun i hi => by rw [zup_n (by omega), zup_n (by omega)], fun _ => ⟨fun _ => by rw [zup_n (by omega), zup_s], fun _ => zup_s⟩⟩)
  · have e2 : decide (0 < r1.2.1) = false := decide_eq_false e
    rw [e2, if_neg (fun q => by cases q)]
    refine zs_aload_n (pc := 79) dM_readArguments_79 rfl ?_
    refine zs_get (pc := 80) dM_readArguments_80 fM_42 (by first | exact z2_a | exact z2_1 | (rw [z2_n (by omega) (by omega)]; exact zu_s) | (rw [z2_n (by omega) (by omega), zu_n (by omega)]; exact hT) | (rw [z2_n (by omega) (by omega), zu_n (by omega)]; exact hB8) | (rw [z2_n (by omega) (by omega), zu_n (by omega)]; exact hL7)) (by rfl) ?_
    refine zs_iload_n (pc := 83) dM_readArguments_83 rfl ?_
    refine zs_iconst (pc := 84) dM_readArguments_84 zi_1 ?_
    refine zn_iadd (pc := 85) dM_readArguments_85 ?_
    refine zs_aload_n (pc := 86) dM_readArguments_86 rfl ?_
    refine zcV1_0 (pc := 87) (d2 := d - 1) (s_M_numberBehind_w hl (by omega)) dM_readArguments_87 kM_231 mdM_numberBehind miM_numberBehind mvM_numberBehind rfl (by exact z2_a) rfl (Nat.le_of_ble_eq_true rfl) (by omega) (by omega) (by omega) ?_
    refine zn_iast (pc := 90) dM_readArguments_90 (by first | exact z2_a | exact z2_1 | (rw [z2_n (by omega) (by omega)]; exact zu_s) | (rw [z2_n (by omega) (by omega), zu_n (by omega)]; exact hT) | (rw [z2_n (by omega) (by omega), zu_n (by omega)]; exact hB8) | (rw [z2_n (by omega) (by omega), zu_n (by omega)]; exact hL7)) (by omega) (by first | decide | assumption) ?_
    first | rw [z2_G] | rw [z2_q2] | rw [z2_q3] | rw [z2_q4] | rw [z2_q5] | rw [z2_q6] | rw [z2_q9]
    rw [zu_zu]
    refine zs_goto (pc := 91) 163 dM_readArguments_91 rfl ?_
    exact zs_vret (pc := 163) dM_readArguments_163 rfl (by omega) (by omega) (⟨rfl, rfl, _, _, rfl, fun i hi => by rw [zup_n (by omega), zup_n (by omega)], fun q => by cases q⟩)
theorem s_M_readArguments_2 {Γ : zG} {l : Launch} (hl : l.stackTraces = false) {d : Nat} (hd : 4 ≤ d) {h : zH} {n a : Nat} {g : Nat → Nat} {s3 s5 s6 s7 s8 s10 s12 s16 s20 : Int32} {T C : Nat → Nat} {q np to : Nat} (hT : h (a + 5) = some (zAr 0 60 T)) (hn : np ≤ 60) (hc : ∀ i, i < np → T i < 128) (hto : to + 1 < 183) (hq : q < np ∧ T q = 32) : zC Γ l d mM_readArguments [.ref a, .int (nI 2), .int (nI to)] (z2 (zu h (a + 9) (zAr 0 183 C)) a (zAr 0 246 (g)) (zMo a s3 s5 s6 s7 s8 s10 s12 s16 (nI (q + 1)) (nI np) (nI 0) s20)) n 0 0 (yQa h n a g s3 s5 s6 s7 s8 s10 s12 s16 np 2 to C (zpa T np 2 q)) := by
  have hT9 : zu h (a + 9) (zAr 0 183 C) (a + 5) = some (zAr 0 60 T) := by rw [zu_n (by omega)]; exact hT
  have ez : zpa T np 2 q = (if (zrn T np 3 q).1 = true then ((zrn T np 3 (zrn T np 3 q).2.1).1, (zrn T np 3 (zrn T np 3 q).2.1).2.1, (zrn T np 3 q).2.2.2, (zrn T np 3 (zrn T np 3 q).2.1).2.2.2) else (false, (zrn T np 3 q).2.1, 0, 0)) := rfl
  have hr := zrd_ok (T := T) (n := np) 3 (q + 1) 0 0 (by omega)
  rw [ez, zrn_s hq]
  have hT8 : ∀ x, zu h (a + 9) (zAr 0 183 (zup C to x)) (a + 5) = some (zAr 0 60 T) := fun x => by rw [zu_n (by omega)]; exact hT
  refine zC_of (ls := [some (.ref a), some (.int (nI 2)), some (.int (nI to)), none]) hl (by decide +kernel) rfl (Nat.le_of_ble_eq_true rfl) rfl ?_
  refine zs_iload_n (pc := 0) dM_readArguments_0 rfl ?_
  refine zs_tableIn (pc := 1) (off := 68) 69 dM_readArguments_1 (by decide) (by decide) (by decide) rfl ?_
  refine zs_aload_n (pc := 69) dM_readArguments_69 rfl ?_
  refine zs_get (pc := 70) dM_readArguments_70 fM_42 (by first | exact z2_a | exact z2_1 | (rw [z2_n (by omega) (by omega)]; exact zu_s) | (rw [z2_n (by omega) (by omega), zu_n (by omega)]; exact hT) | (rw [z2_n (by omega) (by omega), zu_n (by omega)]; exact hB8) | (rw [z2_n (by omega) (by omega), zu_n (by omega)]; exact hL7)) (by rfl) ?_
  refine zs_iload_n (pc := 73) dM_readArguments_73 rfl ?_
  refine zs_aload_n (pc := 74) dM_readArguments_74 rfl ?_
  refine zcV1_0 (pc := 75) (d2 := d - 1) (s_M_number hl (by omega) hT9 hn hc (by omega)) dM_readArguments_75 kM_228 mdM_number miM_number mvM_number rfl (by exact z2_a) rfl (Nat.le_of_ble_eq_true rfl) (by omega) (by omega) (by omega) ?_
  generalize zrd T np 3 (q + 1) 0 0 = r1 at hr ⊢
  refine zn_iast (pc := 78) dM_readArguments_78 (by first | exact z2_a | exact z2_1 | (rw [z2_n (by omega) (by omega)]; exact zu_s) | (rw [z2_n (by omega) (by omega), zu_n (by omega)]; exact hT) | (rw [z2_n (by omega) (by omega), zu_n (by omega)]; exact hB8) | (rw [z2_n (by omega) (by omega), zu_n (by omega)]; exact hL7)) (by omega) (by first | decide | assumption) ?_
  first | rw [z2_G] | rw [z2_q2] | rw [z2_q3] | rw [z2_q4] | rw [z2_q5] | rw [z2_q6] | rw [z2_q9]
  rw [zu_zu]
  by_cases e : 0 < r1.2.1
  · have e2 : decide (0 < r1.2.1) = true := decide_eq_true e
    rw [e2, if_pos rfl]
    refine zs_aload_n (pc := 79) dM_readArguments_79 rfl ?_
    refine zs_get (pc := 80) dM_readArguments_80 fM_42 (by first | exact z2_a | exact z2_1 | (rw [z2_n (by omega) (by omega)]; exact zu_s) | (rw [z2_n (by omega) (by omega), zu_n (by omega)]; exact hT) | (rw [z2_n (by omega) (by omega), zu_n (by omega)]; exact hB8) | (rw [z2_n (by omega) (by omega), zu_n (by omega)]; exact hL7)) (by rfl) ?_
    refine zs_iload_n (pc := 83) dM_readArguments_83 rfl ?_
    refine zs_iconst (pc := 84) dM_readArguments_84 zi_1 ?_
    refine zn_iadd (pc := 85) dM_readArguments_85 ?_
    refine zs_aload_n (pc := 86) dM_readArguments_86 rfl ?_
    refine zcV1_0 (pc := 87) (d2 := d - 1) (s_M_numberBehind hl (by omega) (hT8 _) hn hc (by omega)) dM_readArguments_87 kM_231 mdM_numberBehind miM_numberBehind mvM_numberBehind rfl (by exact z2_a) rfl (Nat.le_of_ble_eq_true rfl) (by omega) (by omega) (by omega) ?_
    refine zn_iast (pc := 90) dM_readArguments_90 (by first | exact z2_a | exact z2_1 | (rw [z2_n (by omega) (by omega)]; exact zu_s) | (rw [z2_n (by omega) (by omega), zu_n (by omega)]; exact hT) | (rw [z2_n (by omega) (by omega), zu_n (by omega)]; exact hB8) | (rw [z2_n (by omega) (by omega), zu_n (by omega)]; exact hL7)) (by omega) (by first | decide | assumption) ?_
    first | rw [z2_G] | rw [z2_q2] | rw [z2_q3] | rw [z2_q4] | rw [z2_q5] | rw [z2_q6] | rw [z2_q9]
    rw [zu_zu]
    refine zs_goto (pc := 91) 163 dM_readArguments_91 rfl ?_
    exact zs_vret (pc := 163) dM_readArguments_163 rfl (by omega) (by omega) (⟨rfl, rfl, _, _, rfl, fun i hi => by rw [zup_n (by omega), zup_n (by omega)], fun _ => ⟨fun _ => by rw [zup_n (by omega), zup_s], fun _ => zup_s⟩⟩)
  · have e2 : decide (0 < r1.2.1) = false := decide_eq_false e
    rw [e2, if_neg (fun q => by cases q)]
    refine zs_aload_n (pc := 79) dM_readArguments_79 rfl ?_
    refine zs_get (pc := 80) dM_readArguments_80 fM_42 (by first | exact z2_a | exact z2_1 | (rw [z2_n (by omega) (by omega)]; exact zu_s) | (rw [z2_n (by omega) (by omega), zu_n (by omega)]; exact hT) | (rw [z2_n (by omega) (by omega), zu_n (by omega)]; exact hB8) | (rw [z2_n (by omega) (by omega), zu_n (by omega)]; exact hL7)) (by rfl) ?_
    refine zs_iload_n (pc := 83) dM_readArguments_83 rfl ?_
    refine zs_iconst (pc := 84) dM_readArguments_84 zi_1 ?_
    refine zn_iadd (pc := 85) dM_readArguments_85 ?_
    refine zs_aload_n (pc := 86) dM_readArguments_86 rfl ?_
    refine zcV1_0 (pc := 87) (d2 := d - 1) (s_M_numberBehind_w hl (by omega)) dM_readArguments_87 kM_231 mdM_numberBehind miM_numberBehind mvM_numberBehind rfl (by exact z2_a) rfl (Nat.le_of_ble_eq_true rfl) (by omega) (by omega) (by omega) ?_
    refine zn_iast (pc := 90) dM_readArguments_90 (by first | exact z2_a | exact z2_1 | (rw [z2_n (by omega) (by omega)]; exact zu_s) | (rw [z2_n (by omega) (by omega), zu_n (by omega)]; exact hT) | (rw [z2_n (by omega) (by omega), zu_n (by omega)]; exact hB8) | (rw [z2_n (by omega) (by omega), zu_n (by omega)]; exact hL7)) (by omega) (by first | decide | assumption) ?_
    first | rw [z2_G] | rw [z2_q2] | rw [z2_q3] | rw [z2_q4] | rw [z2_q5] | rw [z2_q6] | rw [z2_q9]
    rw [zu_zu]
    refine zs_goto (pc := 91) 163 dM_readArguments_91 rfl ?_
    exact zs_vret (pc := 163) dM_readArguments_163 rfl (by omega) (by omega) (⟨rfl, rfl, _, _, rfl, fun i hi => by rw [zup_n (by omega), zup_n (by omega)], fun q => by cases q⟩)
theorem s_M_readArguments_5 {Γ : zG} {l : Launch} (hl : l.stackTraces = false) {d : Nat} (hd : 4 ≤ d) {h : zH} {n a : Nat} {g : Nat → Nat} {s3 s5 s6 s7 s8 s10 s12 s16 s20 : Int32} {T C : Nat → Nat} {q np to : Nat} (hT : h (a + 5) = some (zAr 0 60 T)) (hn : np ≤ 60) (hc : ∀ i, i < np → T i < 128) (hto : to + 1 < 183) (hq : q < np ∧ T q = 32) : zC Γ l d mM_readArguments [.ref a, .int (nI 5), .int (nI to)] (z2 (zu h (a + 9) (zAr 0 183 C)) a (zAr 0 246 (g)) (zMo a s3 s5 s6 s7 s8 s10 s12 s16 (nI (q + 1)) (nI np) (nI 0) s20)) n 0 0 (yQa h n a g s3 s5 s6 s7 s8 s10 s12 s16 np 5 to C (zpa T np 5 q)) := by
  have hT9 : zu h (a + 9) (zAr 0 183 C) (a + 5) = some (zAr 0 60 T) := by rw [zu_n (by omega)]; exact hT
  have ez : zpa T np 5 q = (if (zrn T np 3 q).1 = true then ((zrn T np 3 (zrn T np 3 q).2.1).1, (zrn T np 3 (zrn T np 3 q).2.1).2.1, (zrn T np 3 q).2.2.2, (zrn T np 3 (zrn T np 3 q).2.1).2.2.2) else (false, (zrn T np 3 q).2.1, 0, 0)) := rfl
  have hr := zrd_ok (T := T) (n := np) 3 (q + 1) 0 0 (by omega)
  rw [ez, zrn_s hq]
  have hT8 : ∀ x, zu h (a + 9) (zAr 0 183 (zup C to x)) (a + 5) = some (zAr 0 60 T) := fun x => by rw [zu_n (by omega)]; exact hT
  refine zC_of (ls := [some (.ref a), some (.int (nI 5)), some (.int (nI to)), none]) hl (by decide +kernel) rfl (Nat.le_of_ble_eq_true rfl) rfl ?_
  refine zs_iload_n (pc := 0) dM_readArguments_0 rfl ?_
  refine zs_tableIn (pc := 1) (off := 68) 69 dM_readArguments_1 (by decide) (by decide) (by decide) rfl ?_
  refine zs_aload_n (pc := 69) dM_readArguments_69 rfl ?_
  refine zs_get (pc := 70) dM_readArguments_70 fM_42 (by first | exact z2_a | exact z2_1 | (rw [z2_n (by omega) (by omega)]; exact zu_s) | (rw [z2_n (by omega) (by omega), zu_n (by omega)]; exact hT) | (rw [z2_n (by omega) (by omega), zu_n (by omega)]; exact hB8) | (rw [z2_n (by omega) (by omega), zu_n (by omega)]; exact hL7)) (by rfl) ?_
  refine zs_iload_n (pc := 73) dM_readArguments_73 rfl ?_
  refine zs_aload_n (pc := 74) dM_readArguments_74 rfl ?_
  refine zcV1_0 (pc := 75) (d2 := d - 1) (s_M_number hl (by omega) hT9 hn hc (by omega)) dM_readArguments_75 kM_228 mdM_number miM_number mvM_number rfl (by exact z2_a) rfl (Nat.le_of_ble_eq_true rfl) (by omega) (by omega) (by omega) ?_
  generalize zrd T np 3 (q + 1) 0 0 = r1 at hr ⊢
  refine zn_iast (pc := 78) dM_readArguments_78 (by first | exact z2_a | exact z2_1 | (rw [z2_n (by omega) (by omega)]; exact zu_s) | (rw [z2_n (by omega) (by omega), zu_n (by omega)]; exact hT) | (rw [z2_n (by omega) (by omega), zu_n (by omega)]; exact hB8) | (rw [z2_n (by omega) (by omega), zu_n (by omega)]; exact hL7)) (by omega) (by first | decide | assumption) ?_
  first | rw [z2_G] | rw [z2_q2] | rw [z2_q3] | rw [z2_q4] | rw [z2_q5] | rw [z2_q6] | rw [z2_q9]
  rw [zu_zu]
  by_cases e : 0 < r1.2.1
  · have e2 : decide (0 < r1.2.1) = true := decide_eq_true e
    rw [e2, if_pos rfl]
    refine zs_aload_n (pc := 79) dM_readArguments_79 rfl ?_
    refine zs_get (pc := 80) dM_readArguments_80 fM_42 (by first | exact z2_a | exact z2_1 | (rw [z2_n (by omega) (by omega)]; exact zu_s) | (rw [z2_n (by omega) (by omega), zu_n (by omega)]; exact hT) | (rw [z2_n (by omega) (by omega), zu_n (by omega)]; exact hB8) | (rw [z2_n (by omega) (by omega), zu_n (by omega)]; exact hL7)) (by rfl) ?_
    refine zs_iload_n (pc := 83) dM_readArguments_83 rfl ?_
    refine zs_iconst (pc := 84) dM_readArguments_84 zi_1 ?_
    refine zn_iadd (pc := 85) dM_readArguments_85 ?_
    refine zs_aload_n (pc := 86) dM_readArguments_86 rfl ?_
    refine zcV1_0 (pc := 87) (d2 := d - 1) (s_M_numberBehind hl (by omega) (hT8 _) hn hc (by omega)) dM_readArguments_87 kM_231 mdM_numberBehind miM_numberBehind mvM_numberBehind rfl (by exact z2_a) rfl (Nat.le_of_ble_eq_true rfl) (by omega) (by omega) (by omega) ?_
    refine zn_iast (pc := 90) dM_readArguments_90 (by first | exact z2_a | exact z2_1 | (rw [z2_n (by omega) (by omega)]; exact zu_s) | (rw [z2_n (by omega) (by omega), zu_n (by omega)]; exact hT) | (rw [z2_n (by omega) (by omega), zu_n (by omega)]; exact hB8) | (rw [z2_n (by omega) (by omega), zu_n (by omega)]; exact hL7)) (by omega) (by first | decide | assumption) ?_
    first | rw [z2_G] | rw [z2_q2] | rw [z2_q3] | rw [z2_q4] | rw [z2_q5] | rw [z2_q6] | rw [z2_q9]
    rw [zu_zu]
    refine zs_goto (pc := 91) 163 dM_readArguments_91 rfl ?_
    exact zs_vret (pc := 163) dM_readArguments_163 rfl (by omega) (by omega) (⟨rfl, rfl, _, _, rfl, fun i hi => by rw [zup_n (by omega), zup_n (by omega)], fun _ => ⟨fun _ => by rw [zup_n (by omega), zup_s], fun _ => zup_s⟩⟩)
  · have e2 : decide (0 < r1.2.1) = false := decide_eq_false e
    rw [e2, if_neg (fun q => by cases q)]
    refine zs_aload_n (pc := 79) dM_readArguments_79 rfl ?_
    refine zs_get (pc := 80) dM_readArguments_80 fM_42 (by first | exact z2_a | exact z2_1 | (rw [z2_n (by omega) (by omega)]; exact zu_s) | (rw [z2_n (by omega) (by omega), zu_n (by omega)]; exact hT) | (rw [z2_n (by omega) (by omega), zu_n (by omega)]; exact hB8) | (rw [z2_n (by omega) (by omega), zu_n (by omega)]; exact hL7)) (by rfl) ?_
    refine zs_iload_n (pc := 83) dM_readArguments_83 rfl ?_
    refine zs_iconst (pc := 84) dM_readArguments_84 zi_1 ?_
    refine zn_iadd (pc := 85) dM_readArguments_85 ?_
    refine zs_aload_n (pc := 86) dM_readArguments_86 rfl ?_
    refine zcV1_0 (pc := 87) (d2 := d - 1) (s_M_numberBehind_w hl (by omega)) dM_readArguments_87 kM_231 mdM_numberBehind miM_numberBehind mvM_numberBehind rfl (by exact z2_a) rfl (Nat.le_of_ble_eq_true rfl) (by omega) (by omega) (by omega) ?_
    refine zn_iast (pc := 90) dM_readArguments_90 (by first | exact z2_a | exact z2_1 | (rw [z2_n (by omega) (by omega)]; exact zu_s) | (rw [z2_n (by omega) (by omega), zu_n (by omega)]; exact hT) | (rw [z2_n (by omega) (by omega), zu_n (by omega)]; exact hB8) | (rw [z2_n (by omega) (by omega), zu_n (by omega)]; exact hL7)) (by omega) (by first | decide | assumption) ?_
    first | rw [z2_G] | rw [z2_q2] | rw [z2_q3] | rw [z2_q4] | rw [z2_q5] | rw [z2_q6] | rw [z2_q9]
    rw [zu_zu]
    refine zs_goto (pc := 91) 163 dM_readArguments_91 rfl ?_
    exact zs_vret (pc := 163) dM_readArguments_163 rfl (by omega) (by omega) (⟨rfl, rfl, _, _, rfl, fun i hi => by rw [zup_n (by omega), zup_n (by omega)], fun q => by cases q⟩)
theorem s_M_readArguments_8 {Γ : zG} {l : Launch} (hl : l.stackTraces = false) {d : Nat} (hd : 4 ≤ d) {h : zH} {n a : Nat} {g : Nat → Nat} {s3 s5 s6 s7 s8 s10 s12 s16 s20 : Int32} {T C : Nat → Nat} {q np to : Nat} (hT : h (a + 5) = some (zAr 0 60 T)) (hn : np ≤ 60) (hc : ∀ i, i < np → T i < 128) (hto : to + 1 < 183) (hq : q ≤ np) : zC Γ l d mM_readArguments [.ref a, .int (nI 8), .int (nI to)] (z2 (zu h (a + 9) (zAr 0 183 C)) a (zAr 0 246 (g)) (zMo a s3 s5 s6 s7 s8 s10 s12 s16 (nI q) (nI np) (nI 0) s20)) n 0 0 (yQa h n a g s3 s5 s6 s7 s8 s10 s12 s16 np 8 to C (zpa T np 8 q)) := by
  have hT9 : zu h (a + 9) (zAr 0 183 C) (a + 5) = some (zAr 0 60 T) := by rw [zu_n (by omega)]; exact hT
  have ez : zpa T np 8 q = (if q < np ∧ T q = 32 then ((zrn T np 3 q).1, (zrn T np 3 q).2.1, (zrn T np 3 q).2.2.1, (zrn T np 3 q).2.2.2) else (true, q, 0, 0)) := rfl
  rw [ez]
  refine zC_of (ls := [some (.ref a), some (.int (nI 8)), some (.int (nI to)), none]) hl (by decide +kernel) rfl (Nat.le_of_ble_eq_true rfl) rfl ?_
  by_cases e : q < np ∧ T q = 32
  · rw [if_pos e]
    have hce := hc q e.1
    refine zs_iload_n (pc := 0) dM_readArguments_0 rfl ?_
    refine zs_tableIn (pc := 1) (off := 106) 107 dM_readArguments_1 (by decide) (by decide) (by decide) rfl ?_
    refine zs_aload_n (pc := 107) dM_readArguments_107 rfl ?_
    refine zcV1_0 (pc := 108) (d2 := d - 1) (s_M_here_y hl hT9 hn e.1) dM_readArguments_108 kM_212 mdM_here miM_here mvM_here rfl (by exact z2_a) rfl (Nat.le_of_ble_eq_true rfl) (by omega) (by omega) (by omega) ?_
    refine zs_bipush (pc := 111) dM_readArguments_111 (zi_b 32 (by decide)) ?_
    refine zn_icmp_eq (pc := 113) 120 dM_readArguments_113 rfl (by omega) (by omega) (fun _ => ?_) (fun h9 => absurd h9 (by omega))
    refine zs_iconst (pc := 120) dM_readArguments_120 zi_0 ?_
    refine zs_istore_n (pc := 121) (ls2 := [_, _, _, _]) dM_readArguments_121 (Nat.le_of_ble_eq_true rfl) rfl ?_
    refine zs_aload_n (pc := 122) dM_readArguments_122 rfl ?_
    refine zs_get (pc := 123) dM_readArguments_123 fM_42 (by first | exact z2_a | exact z2_1 | (rw [z2_n (by omega) (by omega)]; exact zu_s) | (rw [z2_n (by omega) (by omega), zu_n (by omega)]; exact hT) | (rw [z2_n (by omega) (by omega), zu_n (by omega)]; exact hB8) | (rw [z2_n (by omega) (by omega), zu_n (by omega)]; exact hL7)) (by rfl) ?_
    refine zs_iload_n (pc := 126) dM_readArguments_126 rfl ?_
    refine zs_iconst (pc := 127) dM_readArguments_127 zi_1 ?_
    refine zn_iadd (pc := 128) dM_readArguments_128 ?_
    refine zs_iload_n (pc := 129) dM_readArguments_129 rfl ?_
    refine zn_if_eq (pc := 130) 137 dM_readArguments_130 rfl (by omega) (fun _ => ?_) (fun h9 => absurd h9 (by decide))
    refine zs_aload_n (pc := 137) dM_readArguments_137 rfl ?_
    refine zcV1_0 (pc := 138) (d2 := d - 1) (s_M_numberBehind hl (by omega) hT9 hn hc hq) dM_readArguments_138 kM_231 mdM_numberBehind miM_numberBehind mvM_numberBehind rfl (by exact z2_a) rfl (Nat.le_of_ble_eq_true rfl) (by omega) (by omega) (by omega) ?_
    have hmx : (zrn T np 3 q).1 = true → max 1 (zrn T np 3 q).2.2.1 = (zrn T np 3 q).2.2.1 := fun q9 => by
      rw [zrn_s e] at q9 ⊢
      have q8 : 0 < (zrd T np 3 (q + 1) 0 0).2.1 := of_decide_eq_true q9
      exact Nat.max_eq_right q8
    refine zn_iast (pc := 141) dM_readArguments_141 (by first | exact z2_a | exact z2_1 | (rw [z2_n (by omega) (by omega)]; exact zu_s) | (rw [z2_n (by omega) (by omega), zu_n (by omega)]; exact hT) | (rw [z2_n (by omega) (by omega), zu_n (by omega)]; exact hB8) | (rw [z2_n (by omega) (by omega), zu_n (by omega)]; exact hL7)) (by omega) (by first | decide | assumption) ?_
    first | rw [z2_G] | rw [z2_q2] | rw [z2_q3] | rw [z2_q4] | rw [z2_q5] | rw [z2_q6] | rw [z2_q9]
    rw [zu_zu]
    refine zs_aload_n (pc := 142) dM_readArguments_142 rfl ?_
    refine zs_get (pc := 143) dM_readArguments_143 fM_42 (by first | exact z2_a | exact z2_1 | (rw [z2_n (by omega) (by omega)]; exact zu_s) | (rw [z2_n (by omega) (by omega), zu_n (by omega)]; exact hT) | (rw [z2_n (by omega) (by omega), zu_n (by omega)]; exact hB8) | (rw [z2_n (by omega) (by omega), zu_n (by omega)]; exact hL7)) (by rfl) ?_
    refine zs_iload_n (pc := 146) dM_readArguments_146 rfl ?_
    refine zs_iload_n (pc := 147) dM_readArguments_147 rfl ?_
    refine zn_if_eq (pc := 148) 155 dM_readArguments_148 rfl (by omega) (fun _ => ?_) (fun h9 => absurd h9 (by decide))
    refine zs_aload_n (pc := 155) dM_readArguments_155 rfl ?_
    refine zs_get (pc := 156) dM_readArguments_156 fM_222 (by first | exact z2_a | exact z2_1 | (rw [z2_n (by omega) (by omega)]; exact zu_s) | (rw [z2_n (by omega) (by omega), zu_n (by omega)]; exact hT) | (rw [z2_n (by omega) (by omega), zu_n (by omega)]; exact hB8) | (rw [z2_n (by omega) (by omega), zu_n (by omega)]; exact hL7)) (by rfl) ?_
    refine zn_iast (pc := 159) dM_readArguments_159 (by first | exact z2_a | exact z2_1 | (rw [z2_n (by omega) (by omega)]; exact zu_s) | (rw [z2_n (by omega) (by omega), zu_n (by omega)]; exact hT) | (rw [z2_n (by omega) (by omega), zu_n (by omega)]; exact hB8) | (rw [z2_n (by omega) (by omega), zu_n (by omega)]; exact hL7)) (by omega) (by first | decide | assumption) ?_
    first | rw [z2_G] | rw [z2_q2] | rw [z2_q3] | rw [z2_q4] | rw [z2_q5] | rw [z2_q6] | rw [z2_q9]
    rw [zu_zu]
    refine zs_goto (pc := 160) 163 dM_readArguments_160 rfl ?_
    exact zs_vret (pc := 163) dM_readArguments_163 rfl (by omega) (by omega) (⟨rfl, rfl, _, _, rfl, fun i hi => by rw [zup_n (by omega), zup_n (by omega)], fun q9 => ⟨fun _ => by rw [zup_s]; exact hmx q9, fun _ => by rw [zup_n (by omega), zup_s]⟩⟩)
  · rw [if_neg e]
    have main : Z Γ l mM_readArguments d 0 0 (zFin Γ (yQa h n a g s3 s5 s6 s7 s8 s10 s12 s16 np 8 to C (true, q, 0, 0)) 0 0) 116 [some (.ref a), some (.int (nI 8)), some (.int (nI to)), none] [] (z2 (zu h (a + 9) (zAr 0 183 C)) a (zAr 0 246 (g)) (zMo a s3 s5 s6 s7 s8 s10 s12 s16 (nI q) (nI np) (nI 0) s20)) n 0 0 := by
      refine zs_iconst (pc := 116) dM_readArguments_116 zi_1 ?_
      refine zs_goto (pc := 117) 121 dM_readArguments_117 rfl ?_
      refine zs_istore_n (pc := 121) (ls2 := [_, _, _, _]) dM_readArguments_121 (Nat.le_of_ble_eq_true rfl) rfl ?_
      refine zs_aload_n (pc := 122) dM_readArguments_122 rfl ?_
      refine zs_get (pc := 123) dM_readArguments_123 fM_42 (by first | exact z2_a | exact z2_1 | (rw [z2_n (by omega) (by omega)]; exact zu_s) | (rw [z2_n (by omega) (by omega), zu_n (by omega)]; exact hT) | (rw [z2_n (by omega) (by omega), zu_n (by omega)]; exact hB8) | (rw [z2_n (by omega) (by omega), zu_n (by omega)]; exact hL7)) (by rfl) ?_
      refine zs_iload_n (pc := 126) dM_readArguments_126 rfl ?_
      refine zs_iconst (pc := 127) dM_readArguments_127 zi_1 ?_
      refine zn_iadd (pc := 128) dM_readArguments_128 ?_
      refine zs_iload_n (pc := 129) dM_readArguments_129 rfl ?_
      refine zn_if_eq (pc := 130) 137 dM_readArguments_130 rfl (by omega) (fun h9 => absurd h9 (by decide)) (fun _ => ?_)
      refine zs_iconst (pc := 133) dM_readArguments_133 zi_0 ?_
      refine zs_goto (pc := 134) 141 dM_readArguments_134 rfl ?_
      refine zn_iast (pc := 141) dM_readArguments_141 (by first | exact z2_a | exact z2_1 | (rw [z2_n (by omega) (by omega)]; exact zu_s) | (rw [z2_n (by omega) (by omega), zu_n (by omega)]; exact hT) | (rw [z2_n (by omega) (by omega), zu_n (by omega)]; exact hB8) | (rw [z2_n (by omega) (by omega), zu_n (by omega)]; exact hL7)) (by omega) (by first | decide | assumption) ?_
      first | rw [z2_G] | rw [z2_q2] | rw [z2_q3] | rw [z2_q4] | rw [z2_q5] | rw [z2_q6] | rw [z2_q9]
      rw [zu_zu]
      refine zs_aload_n (pc := 142) dM_readArguments_142 rfl ?_
      refine zs_get (pc := 143) dM_readArguments_143 fM_42 (by first | exact z2_a | exact z2_1 | (rw [z2_n (by omega) (by omega)]; exact zu_s) | (rw [z2_n (by omega) (by omega), zu_n (by omega)]; exact hT) | (rw [z2_n (by omega) (by omega), zu_n (by omega)]; exact hB8) | (rw [z2_n (by omega) (by omega), zu_n (by omega)]; exact hL7)) (by rfl) ?_
      refine zs_iload_n (pc := 146) dM_readArguments_146 rfl ?_
      refine zs_iload_n (pc := 147) dM_readArguments_147 rfl ?_
      refine zn_if_eq (pc := 148) 155 dM_readArguments_148 rfl (by omega) (fun h9 => absurd h9 (by decide)) (fun _ => ?_)
      refine zs_iconst (pc := 151) dM_readArguments_151 zi_0 ?_
      refine zs_goto (pc := 152) 159 dM_readArguments_152 rfl ?_
      refine zn_iast (pc := 159) dM_readArguments_159 (by first | exact z2_a | exact z2_1 | (rw [z2_n (by omega) (by omega)]; exact zu_s) | (rw [z2_n (by omega) (by omega), zu_n (by omega)]; exact hT) | (rw [z2_n (by omega) (by omega), zu_n (by omega)]; exact hB8) | (rw [z2_n (by omega) (by omega), zu_n (by omega)]; exact hL7)) (by omega) (by first | decide | assumption) ?_
      first | rw [z2_G] | rw [z2_q2] | rw [z2_q3] | rw [z2_q4] | rw [z2_q5] | rw [z2_q6] | rw [z2_q9]
      rw [zu_zu]
      refine zs_goto (pc := 160) 163 dM_readArguments_160 rfl ?_
      exact zs_vret (pc := 163) dM_readArguments_163 rfl (by omega) (by omega) (⟨rfl, rfl, _, _, rfl, fun i hi => by rw [zup_n (by omega), zup_n (by omega)], fun q9 => ⟨fun _ => zup_s, fun _ => by rw [zup_n (by omega), zup_s]⟩⟩)
    by_cases e2 : q < np
    · have hce := hc q e2
      refine zs_iload_n (pc := 0) dM_readArguments_0 rfl ?_
      refine zs_tableIn (pc := 1) (off := 106) 107 dM_readArguments_1 (by decide) (by decide) (by decide) rfl ?_
      refine zs_aload_n (pc := 107) dM_readArguments_107 rfl ?_
      refine zcV1_0 (pc := 108) (d2 := d - 1) (s_M_here_y hl hT9 hn e2) dM_readArguments_108 kM_212 mdM_here miM_here mvM_here rfl (by exact z2_a) rfl (Nat.le_of_ble_eq_true rfl) (by omega) (by omega) (by omega) ?_
      refine zs_bipush (pc := 111) dM_readArguments_111 (zi_b 32 (by decide)) ?_
      refine zn_icmp_eq (pc := 113) 120 dM_readArguments_113 rfl (by omega) (by omega) (fun h9 => absurd h9 (fun q9 => e ⟨e2, q9⟩)) (fun _ => ?_)
      exact main
    · have hne : ¬ (-1 : Int32) = nI 32 := by decide
      refine zs_iload_n (pc := 0) dM_readArguments_0 rfl ?_
      refine zs_tableIn (pc := 1) (off := 106) 107 dM_readArguments_1 (by decide) (by decide) (by decide) rfl ?_
      refine zs_aload_n (pc := 107) dM_readArguments_107 rfl ?_
      refine zcV1_0 (pc := 108) (d2 := d - 1) (s_M_here_n hl hn e2 (by omega)) dM_readArguments_108 kM_212 mdM_here miM_here mvM_here rfl (by exact z2_a) rfl (Nat.le_of_ble_eq_true rfl) (by omega) (by omega) (by omega) ?_
      refine zs_bipush (pc := 111) dM_readArguments_111 (zi_b 32 (by decide)) ?_
      refine zs_icmp_eq (pc := 113) 120 dM_readArguments_113 rfl (fun h9 => absurd h9 (hne)) (fun _ => ?_)
      exact main
theorem s_M_readArguments {Γ : zG} {l : Launch} (hl : l.stackTraces = false) {d : Nat} (hd : 4 ≤ d) {h : zH} {n a : Nat} {g : Nat → Nat} {s3 s5 s6 s7 s8 s10 s12 s16 s20 : Int32} {T C : Nat → Nat} {q np to : Nat} (hT : h (a + 5) = some (zAr 0 60 T)) (hn : np ≤ 60) (hc : ∀ i, i < np → T i < 128) (hto : to + 1 < 183) {k : Nat} (hk : k < 10) (hq : q ≤ np) (hs : ysp k = true → q < np ∧ T q = 32) : zC Γ l d mM_readArguments [.ref a, .int (nI k), .int (nI to)] (z2 (zu h (a + 9) (zAr 0 183 C)) a (zAr 0 246 (g)) (zMo a s3 s5 s6 s7 s8 s10 s12 s16 (nI (q + (if ysp k = true then 1 else 0))) (nI np) (nI 0) s20)) n 0 0 (yQa h n a g s3 s5 s6 s7 s8 s10 s12 s16 np k to C (zpa T np k q)) := by
  match k, hk with
  | 0, _ => exact s_M_readArguments_0 hl hd hT hn hc hto (hs rfl)
  | 1, _ => exact s_M_readArguments_1 hl hd hT hn hc hto (hs rfl)
  | 2, _ => exact s_M_readArguments_2 hl hd hT hn hc hto (hs rfl)
  | 3, _ => exact s_M_readArguments_3 hl hd hT hn hc hto (hs rfl)
  | 4, _ => exact s_M_readArguments_4 hl hd hT hn hc hto (hs rfl)
  | 5, _ => exact s_M_readArguments_5 hl hd hT hn hc hto (hs rfl)
  | 6, _ => exact s_M_readArguments_6 hl hd hT hn hc hto
  | 7, _ => exact s_M_readArguments_7 hl hd hT hn hc hto (hs rfl)
  | 8, _ => exact s_M_readArguments_8 hl hd hT hn hc hto hq
  | 9, _ => exact s_M_readArguments_9 hl hd hT hn hc hto (hs rfl)
  | k + 10, hk => exact absurd hk (by omega)
/-- what the reading of a command leaves -/
def yQc (h : zH) (n a : Nat) (g : Nat → Nat) (s3 s5 s6 s7 s8 s10 s12 : Int32) (np m : Nat) (C : Nat → Nat) (r : Bool × Nat × zCmd) : zQ := fun o h1 n1 => o = .inl none ∧ n1 = n ∧ ∃ (C' : Nat → Nat) (m' : Nat) (s20 : Int32), h1 = (z2 (zu h (a + 9) (zAr 0 183 C')) a (zAr 0 246 (g)) (zMo a s3 s5 s6 s7 s8 s10 s12 (nI m') (nI r.2.1) (nI np) (nI (ywr r.1)) s20)) ∧ m' ≤ m + 1 ∧ (∀ i, i < 3 * m → C' i = C i) ∧ (r.1 = true → m' = m + 1 ∧ C' (3 * m) = r.2.2.1 ∧ (r.2.2.1 ≠ 6 → C' (3 * m + 1) = r.2.2.2.1) ∧ ((r.2.2.1 = 1 ∨ r.2.2.1 = 2 ∨ r.2.2.1 = 5 ∨ r.2.2.1 = 8) → C' (3 * m + 2) = r.2.2.2.2))
theorem lp_M_readCommand {Γ : zG} {l : Launch} (hl : l.stackTraces = false) {d : Nat} (hd : 1 ≤ d) {h : zH} {n a : Nat} {g : Nat → Nat} {s3 s5 s6 s7 s8 s10 s12 s16 s19 s20 : Int32} {T C : Nat → Nat} {po np : Nat} {x1 : Int32} {FN : List Frame → Array Value → State → State → Prop} (hT : h (a + 5) = some (zAr 0 60 T)) (hL7 : h (a + 7) = some (zAr 1 56 zLt)) (hB8 : h (a + 8) = some (zAr 0 11 zBg)) (hn : np ≤ 60) (hc : ∀ i, i < np → T i < 128) (hpo : po ≤ np) (K : Z Γ l mM_readCommand d 0 0 FN 42 [some (.ref a), some (.int x1), some (.int (nI (yarg T np po 9))), some (.int (nI 10))] [] (z2 (zu h (a + 9) (zAr 0 183 C)) a (zAr 0 246 (g)) (zMo a s3 s5 s6 s7 s8 s10 s12 s16 (nI po) (nI np) s19 s20)) n 0 0) : ∀ i j, i + j = 9 → Z Γ l mM_readCommand d 0 0 FN 11 [some (.ref a), some (.int x1), some (.int (nI (yarg T np po j))), some (.int (nI (j + 1)))] [] (z2 (zu h (a + 9) (zAr 0 183 C)) a (zAr 0 246 (g)) (zMo a s3 s5 s6 s7 s8 s10 s12 s16 (nI po) (nI np) s19 s20)) n 0 0 := by
  have hT9 : zu h (a + 9) (zAr 0 183 C) (a + 5) = some (zAr 0 60 T) := by rw [zu_n (by omega)]; exact hT
  have hL9 : zu h (a + 9) (zAr 0 183 C) (a + 7) = some (zAr 1 56 zLt) := by rw [zu_n (by omega)]; exact hL7
  have hB9 : zu h (a + 9) (zAr 0 183 C) (a + 8) = some (zAr 0 11 zBg) := by rw [zu_n (by omega)]; exact hB8
  intro i
  induction i with
  | zero =>
    intro j hj
    obtain rfl : j = 9 := by omega
    refine zs_iload_n (pc := 11) dM_readCommand_11 rfl ?_
    refine zs_bipush (pc := 12) dM_readCommand_12 (zi_b 10 (by decide)) ?_
    refine zn_icmp_ge (pc := 14) 42 dM_readCommand_14 rfl (by omega) (by omega) (fun _ => ?_) (fun h9 => absurd h9 (by omega))
    exact K
  | succ i ih =>
    intro j hj
    have hz := ih (j + 1) (by omega)
    obtain ⟨a1, a2⟩ := yarg_ok (T := T) (n := np) (po := po) j
    have y1 := yml_le (j + 1) (by omega)
    have y2 := yml_le (yarg T np po j) (by omega)
    have l1 : ylike T np po (j + 1) ≤ yml (j + 1) := (ylk_sp (T := T) (n := np) (po := po) (i := j + 1) (yml (j + 1)) 0 (by omega) (fun x hx => absurd hx (by omega))).1
    have l2 : ylike T np po (yarg T np po j) ≤ yml (yarg T np po j) := (ylk_sp (T := T) (n := np) (po := po) (i := yarg T np po j) (yml (yarg T np po j)) 0 (by omega) (fun x hx => absurd hx (by omega))).1
    have ey : yarg T np po (j + 1) = if ylike T np po (yarg T np po j) < ylike T np po (j + 1) then j + 1 else yarg T np po j := rfl
    rw [ey] at hz
    by_cases e : ylike T np po (yarg T np po j) < ylike T np po (j + 1)
    · rw [if_pos e] at hz
      refine zs_iload_n (pc := 11) dM_readCommand_11 rfl ?_
      refine zs_bipush (pc := 12) dM_readCommand_12 (zi_b 10 (by decide)) ?_
      refine zn_icmp_ge (pc := 14) 42 dM_readCommand_14 rfl (by omega) (by omega) (fun h9 => absurd h9 (by omega)) (fun _ => ?_)
      refine zs_aload_n (pc := 17) dM_readCommand_17 rfl ?_
      refine zs_iload_n (pc := 18) dM_readCommand_18 rfl ?_
      refine zcV1_1 (pc := 19) (d2 := d - 1) (s_M_likeness hl hT9 hL9 hB9 hn hc hpo (by omega)) dM_readCommand_19 kM_237 mdM_likeness miM_likeness mvM_likeness rfl (by exact z2_a) rfl (Nat.le_of_ble_eq_true rfl) (by omega) (by omega) (by omega) ?_
      refine zs_aload_n (pc := 22) dM_readCommand_22 rfl ?_
      refine zs_iload_n (pc := 23) dM_readCommand_23 rfl ?_
      refine zcV1_1 (pc := 24) (d2 := d - 1) (s_M_likeness hl hT9 hL9 hB9 hn hc hpo (by omega)) dM_readCommand_24 kM_237 mdM_likeness miM_likeness mvM_likeness rfl (by exact z2_a) rfl (Nat.le_of_ble_eq_true rfl) (by omega) (by omega) (by omega) ?_
      refine zn_icmp_le (pc := 27) 34 dM_readCommand_27 rfl (by omega) (by omega) (fun h9 => absurd h9 (by omega)) (fun _ => ?_)
      refine zs_iload_n (pc := 30) dM_readCommand_30 rfl ?_
      refine zs_goto (pc := 31) 35 dM_readCommand_31 rfl ?_
      refine zs_istore_n (pc := 35) (ls2 := [_, _, _, _]) dM_readCommand_35 (Nat.le_of_ble_eq_true rfl) rfl ?_
      refine zn_iinc (pc := 36) (ls2 := [_, _, _, _]) dM_readCommand_36 rfl (Nat.le_of_ble_eq_true rfl) rfl ?_
      refine zs_goto (pc := 39) 11 dM_readCommand_39 rfl ?_
      exact hz
    · rw [if_neg e] at hz
      refine zs_iload_n (pc := 11) dM_readCommand_11 rfl ?_
      refine zs_bipush (pc := 12) dM_readCommand_12 (zi_b 10 (by decide)) ?_
      refine zn_icmp_ge (pc := 14) 42 dM_readCommand_14 rfl (by omega) (by omega) (fun h9 => absurd h9 (by omega)) (fun _ => ?_)
      refine zs_aload_n (pc := 17) dM_readCommand_17 rfl ?_
      refine zs_iload_n (pc := 18) dM_readCommand_18 rfl ?_
      refine zcV1_1 (pc := 19) (d2 := d - 1) (s_M_likeness hl hT9 hL9 hB9 hn hc hpo (by omega)) dM_readCommand_19 kM_237 mdM_likeness miM_likeness mvM_likeness rfl (by exact z2_a) rfl (Nat.le_of_ble_eq_true rfl) (by omega) (by omega) (by omega) ?_
      refine zs_aload_n (pc := 22) dM_readCommand_22 rfl ?_
      refine zs_iload_n (pc := 23) dM_readCommand_23 rfl ?_
      refine zcV1_1 (pc := 24) (d2 := d - 1) (s_M_likeness hl hT9 hL9 hB9 hn hc hpo (by omega)) dM_readCommand_24 kM_237 mdM_likeness miM_likeness mvM_likeness rfl (by exact z2_a) rfl (Nat.le_of_ble_eq_true rfl) (by omega) (by omega) (by omega) ?_
      refine zn_icmp_le (pc := 27) 34 dM_readCommand_27 rfl (by omega) (by omega) (fun _ => ?_) (fun h9 => absurd h9 (by omega))
      refine zs_iload_n (pc := 34) dM_readCommand_34 rfl ?_
      refine zs_istore_n (pc := 35) (ls2 := [_, _, _, _]) dM_readCommand_35 (Nat.le_of_ble_eq_true rfl) rfl ?_
      refine zn_iinc (pc := 36) (ls2 := [_, _, _, _]) dM_readCommand_36 rfl (Nat.le_of_ble_eq_true rfl) rfl ?_
      refine zs_goto (pc := 39) 11 dM_readCommand_39 rfl ?_
      exact hz
theorem s_M_readCommand {Γ : zG} {l : Launch} (hl : l.stackTraces = false) {d : Nat} (hd : 5 ≤ d) {h : zH} {n a : Nat} {g : Nat → Nat} {s3 s5 s6 s7 s8 s10 s12 s19 s20 : Int32} {T C : Nat → Nat} {po np m : Nat} (hT : h (a + 5) = some (zAr 0 60 T)) (hL7 : h (a + 7) = some (zAr 1 56 zLt)) (hB8 : h (a + 8) = some (zAr 0 11 zBg)) (hn : np ≤ 60) (hc : ∀ i, i < np → T i < 128) (hpo : po ≤ np) (hm : m ≤ 15) : zC Γ l d mM_readCommand [.ref a] (z2 (zu h (a + 9) (zAr 0 183 C)) a (zAr 0 246 (g)) (zMo a s3 s5 s6 s7 s8 s10 s12 (nI m) (nI po) (nI np) s19 s20)) n 0 0 (yQc h n a g s3 s5 s6 s7 s8 s10 s12 np m C (zpc T np po)) := by
  have hT9 : zu h (a + 9) (zAr 0 183 C) (a + 5) = some (zAr 0 60 T) := by rw [zu_n (by omega)]; exact hT
  have hL9 : zu h (a + 9) (zAr 0 183 C) (a + 7) = some (zAr 1 56 zLt) := by rw [zu_n (by omega)]; exact hL7
  have hB9 : zu h (a + 9) (zAr 0 183 C) (a + 8) = some (zAr 0 11 zBg) := by rw [zu_n (by omega)]; exact hB8
  have hcont : Z Γ l mM_readCommand d 0 0 (zFin Γ (yQc h n a g s3 s5 s6 s7 s8 s10 s12 np m C (zpc T np po)) 0 0) 42 [some (.ref a), some (.int (nI (3 * m))), some (.int (nI (yarg T np po 9))), some (.int (nI 10))] [] (z2 (zu h (a + 9) (zAr 0 183 C)) a (zAr 0 246 (g)) (zMo a s3 s5 s6 s7 s8 s10 s12 (nI m) (nI po) (nI np) s19 s20)) n 0 0 := by
    have hyl := (yarg_ok (T := T) (n := np) (po := po) 9).1
    have l2 : ylike T np po (yarg T np po 9) ≤ yml (yarg T np po 9) := (ylk_sp (T := T) (n := np) (po := po) (i := yarg T np po 9) (yml (yarg T np po 9)) 0 (by omega) (fun x hx => absurd hx (by omega))).1
    have y2 := yml_le (yarg T np po 9) (by omega)
    obtain ⟨z1, z2, z3⟩ := zwd_ok (T := T) (n := np) (po := po) 10 0 0 rfl (Or.inr rfl)
    unfold zpc
    by_cases e10 : (zwd T np po 10 0 0).1 = 10
    · rw [if_pos e10]
      obtain ⟨n1, n2, n3⟩ := yword_n e10
      rw [← n2]
      obtain ⟨b1, b2, b3, -⟩ := zBg_ok (yarg T np po 9) (by omega)
      refine zs_aload_n (pc := 42) dM_readCommand_42 rfl ?_
      refine zs_iload_n (pc := 43) dM_readCommand_43 rfl ?_
      refine zcV1_1 (pc := 44) (d2 := d - 1) (s_M_likeness hl hT9 hL9 hB9 hn hc hpo (by omega)) dM_readCommand_44 kM_237 mdM_likeness miM_likeness mvM_likeness rfl (by exact z2_a) rfl (Nat.le_of_ble_eq_true rfl) (by omega) (by omega) (by omega) ?_
      refine zs_istore_n (pc := 47) (ls2 := [_, _, _, _]) dM_readCommand_47 (Nat.le_of_ble_eq_true rfl) rfl ?_
      refine zs_aload_n (pc := 48) dM_readCommand_48 rfl ?_
      refine zs_dup (pc := 49) dM_readCommand_49 rfl ?_
      refine zs_get (pc := 50) dM_readCommand_50 fM_202 (by first | exact z2_a | exact z2_1 | (rw [z2_n (by omega) (by omega)]; exact zu_s) | (rw [z2_n (by omega) (by omega), zu_n (by omega)]; exact hT) | (rw [z2_n (by omega) (by omega), zu_n (by omega)]; exact hB8) | (rw [z2_n (by omega) (by omega), zu_n (by omega)]; exact hL7)) (by rfl) ?_
      refine zs_iload_n (pc := 53) dM_readCommand_53 rfl ?_
      refine zn_iadd (pc := 54) dM_readCommand_54 ?_
      refine zs_put (pc := 55) (fs2 := [_, _, _, _, _, _, _, _, _, _, _, _, _, _, _, _, _, _, _, _, _]) dM_readCommand_55 fM_202 (by first | exact z2_a | exact z2_1 | (rw [z2_n (by omega) (by omega)]; exact zu_s) | (rw [z2_n (by omega) (by omega), zu_n (by omega)]; exact hT) | (rw [z2_n (by omega) (by omega), zu_n (by omega)]; exact hB8) | (rw [z2_n (by omega) (by omega), zu_n (by omega)]; exact hL7)) (by rfl) (by rfl) (by exact Nat.le_of_ble_eq_true rfl) (by rfl) ?_
      rw [z2_O]
      refine zs_aload_n (pc := 58) dM_readCommand_58 rfl ?_
      refine zs_iload_n (pc := 59) dM_readCommand_59 rfl ?_
      refine zs_aload_n (pc := 60) dM_readCommand_60 rfl ?_
      refine zs_get (pc := 61) dM_readCommand_61 fM_39 (by first | exact z2_a | exact z2_1 | (rw [z2_n (by omega) (by omega)]; exact zu_s) | (rw [z2_n (by omega) (by omega), zu_n (by omega)]; exact hT) | (rw [z2_n (by omega) (by omega), zu_n (by omega)]; exact hB8) | (rw [z2_n (by omega) (by omega), zu_n (by omega)]; exact hL7)) (by rfl) ?_
      refine zs_iload_n (pc := 64) dM_readCommand_64 rfl ?_
      refine zs_iconst (pc := 65) dM_readCommand_65 zi_1 ?_
      refine zn_iadd (pc := 66) dM_readCommand_66 ?_
      refine zn_iald (pc := 67) dM_readCommand_67 (by first | exact z2_a | exact z2_1 | (rw [z2_n (by omega) (by omega)]; exact zu_s) | (rw [z2_n (by omega) (by omega), zu_n (by omega)]; exact hT) | (rw [z2_n (by omega) (by omega), zu_n (by omega)]; exact hB8) | (rw [z2_n (by omega) (by omega), zu_n (by omega)]; exact hL7)) (by omega) (by first | decide | assumption) ?_
      refine zs_aload_n (pc := 68) dM_readCommand_68 rfl ?_
      refine zs_get (pc := 69) dM_readCommand_69 fM_39 (by first | exact z2_a | exact z2_1 | (rw [z2_n (by omega) (by omega)]; exact zu_s) | (rw [z2_n (by omega) (by omega), zu_n (by omega)]; exact hT) | (rw [z2_n (by omega) (by omega), zu_n (by omega)]; exact hB8) | (rw [z2_n (by omega) (by omega), zu_n (by omega)]; exact hL7)) (by rfl) ?_
      refine zs_iload_n (pc := 72) dM_readCommand_72 rfl ?_
      refine zn_iald (pc := 73) dM_readCommand_73 (by first | exact z2_a | exact z2_1 | (rw [z2_n (by omega) (by omega)]; exact zu_s) | (rw [z2_n (by omega) (by omega), zu_n (by omega)]; exact hT) | (rw [z2_n (by omega) (by omega), zu_n (by omega)]; exact hB8) | (rw [z2_n (by omega) (by omega), zu_n (by omega)]; exact hL7)) (by omega) (by first | decide | assumption) ?_
      refine zn_isub (pc := 74) dM_readCommand_74 (by omega) ?_
      rw [b1]
      refine zn_icmp_ge (pc := 75) 82 dM_readCommand_75 rfl (by omega) (by omega) (fun h9 => absurd h9 (by omega)) (fun _ => ?_)
      refine zs_iconst (pc := 78) dM_readCommand_78 zi_1 ?_
      refine zs_goto (pc := 79) 83 dM_readCommand_79 rfl ?_
      refine zs_put (pc := 83) (fs2 := [_, _, _, _, _, _, _, _, _, _, _, _, _, _, _, _, _, _, _, _, _]) dM_readCommand_83 fM_208 (by first | exact z2_a | exact z2_1 | (rw [z2_n (by omega) (by omega)]; exact zu_s) | (rw [z2_n (by omega) (by omega), zu_n (by omega)]; exact hT) | (rw [z2_n (by omega) (by omega), zu_n (by omega)]; exact hB8) | (rw [z2_n (by omega) (by omega), zu_n (by omega)]; exact hL7)) (by rfl) (by rfl) (by exact Nat.le_of_ble_eq_true rfl) (by rfl) ?_
      rw [z2_O]
      refine zs_aload_n (pc := 86) dM_readCommand_86 rfl ?_
      refine zs_get (pc := 87) dM_readCommand_87 fM_208 (by first | exact z2_a | exact z2_1 | (rw [z2_n (by omega) (by omega)]; exact zu_s) | (rw [z2_n (by omega) (by omega), zu_n (by omega)]; exact hT) | (rw [z2_n (by omega) (by omega), zu_n (by omega)]; exact hB8) | (rw [z2_n (by omega) (by omega), zu_n (by omega)]; exact hL7)) (by rfl) ?_
      refine zn_if_ne (pc := 90) 118 dM_readCommand_90 rfl (by omega) (fun _ => ?_) (fun h9 => absurd h9 (by decide))
      exact zs_vret (pc := 118) dM_readCommand_118 rfl (by omega) (by omega) (⟨rfl, rfl, C, m, _, rfl, by omega, fun i hi => rfl, fun q => by cases q⟩)
    · rw [if_neg e10]
      have hk : (zwd T np po 10 0 0).1 < 10 := by omega
      have hzl := zwd_y (T := T) (n := np) (po := po) 10 0 0 rfl hk
      have hz3 := z3 hk
      rw [hz3] at z2 ⊢
      generalize (zwd T np po 10 0 0).1 = k at hk hzl z2 ⊢
      obtain ⟨w1, w2⟩ := yword_y hk hzl
      rw [w1] at l2 y2 ⊢
      obtain ⟨b1, b2, b3, b4⟩ := zBg_ok k hk
      have hzk := (zwl_ok k hk).2
      by_cases ew : ysp k = true ∧ ¬ (po + zwl k < np ∧ T (po + zwl k) = 32)
      · have hpa : zpa T np k (po + zwl k) = (false, po + zwl k, (zpa T np k (po + zwl k)).2.2) := by
          have hr1 : ∀ mo, zrn T np mo (po + zwl k) = (false, po + zwl k, 0, 0) := fun mo => if_neg ew.2
          have hk68 : k ≠ 6 ∧ k ≠ 8 := by
            constructor <;> (rintro rfl; exact absurd ew.1 (by decide))
          unfold zpa
          rw [hr1, hr1, if_neg hk68.1]
          by_cases c1 : k = 0 ∨ k = 7
          · rw [if_pos c1]
          · rw [if_neg c1]
            by_cases c2 : k = 1 ∨ k = 2 ∨ k = 5
            · rw [if_pos c2]; rfl
            · rw [if_neg c2, if_neg hk68.2]
        rw [if_neg (fun q => ew.2 q.2)] at w2
        rw [if_pos ew.1] at b4
        rw [hpa]
        refine zs_aload_n (pc := 42) dM_readCommand_42 rfl ?_
        refine zs_iload_n (pc := 43) dM_readCommand_43 rfl ?_
        refine zcV1_1 (pc := 44) (d2 := d - 1) (s_M_likeness hl hT9 hL9 hB9 hn hc hpo hk) dM_readCommand_44 kM_237 mdM_likeness miM_likeness mvM_likeness rfl (by exact z2_a) rfl (Nat.le_of_ble_eq_true rfl) (by omega) (by omega) (by omega) ?_
        refine zs_istore_n (pc := 47) (ls2 := [_, _, _, _]) dM_readCommand_47 (Nat.le_of_ble_eq_true rfl) rfl ?_
        refine zs_aload_n (pc := 48) dM_readCommand_48 rfl ?_
        refine zs_dup (pc := 49) dM_readCommand_49 rfl ?_
        refine zs_get (pc := 50) dM_readCommand_50 fM_202 (by first | exact z2_a | exact z2_1 | (rw [z2_n (by omega) (by omega)]; exact zu_s) | (rw [z2_n (by omega) (by omega), zu_n (by omega)]; exact hT) | (rw [z2_n (by omega) (by omega), zu_n (by omega)]; exact hB8) | (rw [z2_n (by omega) (by omega), zu_n (by omega)]; exact hL7)) (by rfl) ?_
        refine zs_iload_n (pc := 53) dM_readCommand_53 rfl ?_
        refine zn_iadd (pc := 54) dM_readCommand_54 ?_
        refine zs_put (pc := 55) (fs2 := [_, _, _, _, _, _, _, _, _, _, _, _, _, _, _, _, _, _, _, _, _]) dM_readCommand_55 fM_202 (by first | exact z2_a | exact z2_1 | (rw [z2_n (by omega) (by omega)]; exact zu_s) | (rw [z2_n (by omega) (by omega), zu_n (by omega)]; exact hT) | (rw [z2_n (by omega) (by omega), zu_n (by omega)]; exact hB8) | (rw [z2_n (by omega) (by omega), zu_n (by omega)]; exact hL7)) (by rfl) (by rfl) (by exact Nat.le_of_ble_eq_true rfl) (by rfl) ?_
        rw [z2_O]
        refine zs_aload_n (pc := 58) dM_readCommand_58 rfl ?_
        refine zs_iload_n (pc := 59) dM_readCommand_59 rfl ?_
        refine zs_aload_n (pc := 60) dM_readCommand_60 rfl ?_
        refine zs_get (pc := 61) dM_readCommand_61 fM_39 (by first | exact z2_a | exact z2_1 | (rw [z2_n (by omega) (by omega)]; exact zu_s) | (rw [z2_n (by omega) (by omega), zu_n (by omega)]; exact hT) | (rw [z2_n (by omega) (by omega), zu_n (by omega)]; exact hB8) | (rw [z2_n (by omega) (by omega), zu_n (by omega)]; exact hL7)) (by rfl) ?_
        refine zs_iload_n (pc := 64) dM_readCommand_64 rfl ?_
        refine zs_iconst (pc := 65) dM_readCommand_65 zi_1 ?_
        refine zn_iadd (pc := 66) dM_readCommand_66 ?_
        refine zn_iald (pc := 67) dM_readCommand_67 (by first | exact z2_a | exact z2_1 | (rw [z2_n (by omega) (by omega)]; exact zu_s) | (rw [z2_n (by omega) (by omega), zu_n (by omega)]; exact hT) | (rw [z2_n (by omega) (by omega), zu_n (by omega)]; exact hB8) | (rw [z2_n (by omega) (by omega), zu_n (by omega)]; exact hL7)) (by omega) (by first | decide | assumption) ?_
        refine zs_aload_n (pc := 68) dM_readCommand_68 rfl ?_
        refine zs_get (pc := 69) dM_readCommand_69 fM_39 (by first | exact z2_a | exact z2_1 | (rw [z2_n (by omega) (by omega)]; exact zu_s) | (rw [z2_n (by omega) (by omega), zu_n (by omega)]; exact hT) | (rw [z2_n (by omega) (by omega), zu_n (by omega)]; exact hB8) | (rw [z2_n (by omega) (by omega), zu_n (by omega)]; exact hL7)) (by rfl) ?_
        refine zs_iload_n (pc := 72) dM_readCommand_72 rfl ?_
        refine zn_iald (pc := 73) dM_readCommand_73 (by first | exact z2_a | exact z2_1 | (rw [z2_n (by omega) (by omega)]; exact zu_s) | (rw [z2_n (by omega) (by omega), zu_n (by omega)]; exact hT) | (rw [z2_n (by omega) (by omega), zu_n (by omega)]; exact hB8) | (rw [z2_n (by omega) (by omega), zu_n (by omega)]; exact hL7)) (by omega) (by first | decide | assumption) ?_
        refine zn_isub (pc := 74) dM_readCommand_74 (by omega) ?_
        rw [b1, w2]
        refine zn_icmp_ge (pc := 75) 82 dM_readCommand_75 rfl (by omega) (by omega) (fun h9 => absurd h9 (by omega)) (fun _ => ?_)
        refine zs_iconst (pc := 78) dM_readCommand_78 zi_1 ?_
        refine zs_goto (pc := 79) 83 dM_readCommand_79 rfl ?_
        refine zs_put (pc := 83) (fs2 := [_, _, _, _, _, _, _, _, _, _, _, _, _, _, _, _, _, _, _, _, _]) dM_readCommand_83 fM_208 (by first | exact z2_a | exact z2_1 | (rw [z2_n (by omega) (by omega)]; exact zu_s) | (rw [z2_n (by omega) (by omega), zu_n (by omega)]; exact hT) | (rw [z2_n (by omega) (by omega), zu_n (by omega)]; exact hB8) | (rw [z2_n (by omega) (by omega), zu_n (by omega)]; exact hL7)) (by rfl) (by rfl) (by exact Nat.le_of_ble_eq_true rfl) (by rfl) ?_
        rw [z2_O]
        refine zs_aload_n (pc := 86) dM_readCommand_86 rfl ?_
        refine zs_get (pc := 87) dM_readCommand_87 fM_208 (by first | exact z2_a | exact z2_1 | (rw [z2_n (by omega) (by omega)]; exact zu_s) | (rw [z2_n (by omega) (by omega), zu_n (by omega)]; exact hT) | (rw [z2_n (by omega) (by omega), zu_n (by omega)]; exact hB8) | (rw [z2_n (by omega) (by omega), zu_n (by omega)]; exact hL7)) (by rfl) ?_
        refine zn_if_ne (pc := 90) 118 dM_readCommand_90 rfl (by omega) (fun _ => ?_) (fun h9 => absurd h9 (by decide))
        exact zs_vret (pc := 118) dM_readCommand_118 rfl (by omega) (by omega) (⟨rfl, rfl, C, m, _, rfl, by omega, fun i hi => rfl, fun q => by cases q⟩)
      · have hfull : ylike T np po k = yml k := by
          rw [w2, b4]
          by_cases es : ysp k = true
          · rw [if_pos es, if_pos ⟨es, Classical.byContradiction fun q => ew ⟨es, q⟩⟩]
          · rw [if_neg es, if_neg (fun q => es q.1)]
        have hs : ysp k = true → po + zwl k < np ∧ T (po + zwl k) = 32 := fun es => Classical.byContradiction fun q => ew ⟨es, q⟩
        have epl : po + yml k = po + zwl k + (if ysp k = true then 1 else 0) := by omega
        refine zs_aload_n (pc := 42) dM_readCommand_42 rfl ?_
        refine zs_iload_n (pc := 43) dM_readCommand_43 rfl ?_
        refine zcV1_1 (pc := 44) (d2 := d - 1) (s_M_likeness hl hT9 hL9 hB9 hn hc hpo hk) dM_readCommand_44 kM_237 mdM_likeness miM_likeness mvM_likeness rfl (by exact z2_a) rfl (Nat.le_of_ble_eq_true rfl) (by omega) (by omega) (by omega) ?_
        refine zs_istore_n (pc := 47) (ls2 := [_, _, _, _]) dM_readCommand_47 (Nat.le_of_ble_eq_true rfl) rfl ?_
        refine zs_aload_n (pc := 48) dM_readCommand_48 rfl ?_
        refine zs_dup (pc := 49) dM_readCommand_49 rfl ?_
        refine zs_get (pc := 50) dM_readCommand_50 fM_202 (by first | exact z2_a | exact z2_1 | (rw [z2_n (by omega) (by omega)]; exact zu_s) | (rw [z2_n (by omega) (by omega), zu_n (by omega)]; exact hT) | (rw [z2_n (by omega) (by omega), zu_n (by omega)]; exact hB8) | (rw [z2_n (by omega) (by omega), zu_n (by omega)]; exact hL7)) (by rfl) ?_
        refine zs_iload_n (pc := 53) dM_readCommand_53 rfl ?_
        refine zn_iadd (pc := 54) dM_readCommand_54 ?_
        refine zs_put (pc := 55) (fs2 := [_, _, _, _, _, _, _, _, _, _, _, _, _, _, _, _, _, _, _, _, _]) dM_readCommand_55 fM_202 (by first | exact z2_a | exact z2_1 | (rw [z2_n (by omega) (by omega)]; exact zu_s) | (rw [z2_n (by omega) (by omega), zu_n (by omega)]; exact hT) | (rw [z2_n (by omega) (by omega), zu_n (by omega)]; exact hB8) | (rw [z2_n (by omega) (by omega), zu_n (by omega)]; exact hL7)) (by rfl) (by rfl) (by exact Nat.le_of_ble_eq_true rfl) (by rfl) ?_
        rw [z2_O]
        refine zs_aload_n (pc := 58) dM_readCommand_58 rfl ?_
        refine zs_iload_n (pc := 59) dM_readCommand_59 rfl ?_
        refine zs_aload_n (pc := 60) dM_readCommand_60 rfl ?_
        refine zs_get (pc := 61) dM_readCommand_61 fM_39 (by first | exact z2_a | exact z2_1 | (rw [z2_n (by omega) (by omega)]; exact zu_s) | (rw [z2_n (by omega) (by omega), zu_n (by omega)]; exact hT) | (rw [z2_n (by omega) (by omega), zu_n (by omega)]; exact hB8) | (rw [z2_n (by omega) (by omega), zu_n (by omega)]; exact hL7)) (by rfl) ?_
        refine zs_iload_n (pc := 64) dM_readCommand_64 rfl ?_
        refine zs_iconst (pc := 65) dM_readCommand_65 zi_1 ?_
        refine zn_iadd (pc := 66) dM_readCommand_66 ?_
        refine zn_iald (pc := 67) dM_readCommand_67 (by first | exact z2_a | exact z2_1 | (rw [z2_n (by omega) (by omega)]; exact zu_s) | (rw [z2_n (by omega) (by omega), zu_n (by omega)]; exact hT) | (rw [z2_n (by omega) (by omega), zu_n (by omega)]; exact hB8) | (rw [z2_n (by omega) (by omega), zu_n (by omega)]; exact hL7)) (by omega) (by first | decide | assumption) ?_
        refine zs_aload_n (pc := 68) dM_readCommand_68 rfl ?_
        refine zs_get (pc := 69) dM_readCommand_69 fM_39 (by first | exact z2_a | exact z2_1 | (rw [z2_n (by omega) (by omega)]; exact zu_s) | (rw [z2_n (by omega) (by omega), zu_n (by omega)]; exact hT) | (rw [z2_n (by omega) (by omega), zu_n (by omega)]; exact hB8) | (rw [z2_n (by omega) (by omega), zu_n (by omega)]; exact hL7)) (by rfl) ?_
        refine zs_iload_n (pc := 72) dM_readCommand_72 rfl ?_
        refine zn_iald (pc := 73) dM_readCommand_73 (by first | exact z2_a | exact z2_1 | (rw [z2_n (by omega) (by omega)]; exact zu_s) | (rw [z2_n (by omega) (by omega), zu_n (by omega)]; exact hT) | (rw [z2_n (by omega) (by omega), zu_n (by omega)]; exact hB8) | (rw [z2_n (by omega) (by omega), zu_n (by omega)]; exact hL7)) (by omega) (by first | decide | assumption) ?_
        refine zn_isub (pc := 74) dM_readCommand_74 (by omega) ?_
        rw [b1, hfull, epl]
        refine zn_icmp_ge (pc := 75) 82 dM_readCommand_75 rfl (by omega) (by omega) (fun _ => ?_) (fun h9 => absurd h9 (by omega))
        refine zs_iconst (pc := 82) dM_readCommand_82 zi_0 ?_
        refine zs_put (pc := 83) (fs2 := [_, _, _, _, _, _, _, _, _, _, _, _, _, _, _, _, _, _, _, _, _]) dM_readCommand_83 fM_208 (by first | exact z2_a | exact z2_1 | (rw [z2_n (by omega) (by omega)]; exact zu_s) | (rw [z2_n (by omega) (by omega), zu_n (by omega)]; exact hT) | (rw [z2_n (by omega) (by omega), zu_n (by omega)]; exact hB8) | (rw [z2_n (by omega) (by omega), zu_n (by omega)]; exact hL7)) (by rfl) (by rfl) (by exact Nat.le_of_ble_eq_true rfl) (by rfl) ?_
        rw [z2_O]
        refine zs_aload_n (pc := 86) dM_readCommand_86 rfl ?_
        refine zs_get (pc := 87) dM_readCommand_87 fM_208 (by first | exact z2_a | exact z2_1 | (rw [z2_n (by omega) (by omega)]; exact zu_s) | (rw [z2_n (by omega) (by omega), zu_n (by omega)]; exact hT) | (rw [z2_n (by omega) (by omega), zu_n (by omega)]; exact hB8) | (rw [z2_n (by omega) (by omega), zu_n (by omega)]; exact hL7)) (by rfl) ?_
        refine zn_if_ne (pc := 90) 118 dM_readCommand_90 rfl (by omega) (fun h9 => absurd h9 (by decide)) (fun _ => ?_)
        refine zs_aload_n (pc := 93) dM_readCommand_93 rfl ?_
        refine zs_get (pc := 94) dM_readCommand_94 fM_42 (by first | exact z2_a | exact z2_1 | (rw [z2_n (by omega) (by omega)]; exact zu_s) | (rw [z2_n (by omega) (by omega), zu_n (by omega)]; exact hT) | (rw [z2_n (by omega) (by omega), zu_n (by omega)]; exact hB8) | (rw [z2_n (by omega) (by omega), zu_n (by omega)]; exact hL7)) (by rfl) ?_
        refine zs_iload_n (pc := 97) dM_readCommand_97 rfl ?_
        refine zs_iload_n (pc := 98) dM_readCommand_98 rfl ?_
        refine zn_iast (pc := 99) dM_readCommand_99 (by first | exact z2_a | exact z2_1 | (rw [z2_n (by omega) (by omega)]; exact zu_s) | (rw [z2_n (by omega) (by omega), zu_n (by omega)]; exact hT) | (rw [z2_n (by omega) (by omega), zu_n (by omega)]; exact hB8) | (rw [z2_n (by omega) (by omega), zu_n (by omega)]; exact hL7)) (by omega) (by first | decide | assumption) ?_
        first | rw [z2_G] | rw [z2_q2] | rw [z2_q3] | rw [z2_q4] | rw [z2_q5] | rw [z2_q6] | rw [z2_q9]
        refine zs_aload_n (pc := 100) dM_readCommand_100 rfl ?_
        refine zs_dup (pc := 101) dM_readCommand_101 rfl ?_
        refine zs_get (pc := 102) dM_readCommand_102 fM_234 (by first | exact z2_a | exact z2_1 | (rw [z2_n (by omega) (by omega)]; exact zu_s) | (rw [z2_n (by omega) (by omega), zu_n (by omega)]; exact hT) | (rw [z2_n (by omega) (by omega), zu_n (by omega)]; exact hB8) | (rw [z2_n (by omega) (by omega), zu_n (by omega)]; exact hL7)) (by rfl) ?_
        refine zs_iconst (pc := 105) dM_readCommand_105 zi_1 ?_
        refine zn_iadd (pc := 106) dM_readCommand_106 ?_
        refine zs_put (pc := 107) (fs2 := [_, _, _, _, _, _, _, _, _, _, _, _, _, _, _, _, _, _, _, _, _]) dM_readCommand_107 fM_234 (by first | exact z2_a | exact z2_1 | (rw [z2_n (by omega) (by omega)]; exact zu_s) | (rw [z2_n (by omega) (by omega), zu_n (by omega)]; exact hT) | (rw [z2_n (by omega) (by omega), zu_n (by omega)]; exact hB8) | (rw [z2_n (by omega) (by omega), zu_n (by omega)]; exact hL7)) (by rfl) (by rfl) (by exact Nat.le_of_ble_eq_true rfl) (by rfl) ?_
        rw [z2_O]
        refine zs_aload_n (pc := 110) dM_readCommand_110 rfl ?_
        refine zs_iload_n (pc := 111) dM_readCommand_111 rfl ?_
        refine zs_iload_n (pc := 112) dM_readCommand_112 rfl ?_
        refine zs_iconst (pc := 113) dM_readCommand_113 zi_1 ?_
        refine zn_iadd (pc := 114) dM_readCommand_114 ?_
        rw [zu_zu]
        refine zcVQ_2 (pc := 115) (d2 := d - 1) (s_M_readArguments (q := po + zwl k) (k := k) (to := 3 * m + 1) hl (by omega) hT hn hc (by omega) hk (by omega) hs) dM_readCommand_115 kM_240 mdM_readArguments miM_readArguments mvM_readArguments rfl (by exact z2_a) rfl (Nat.le_of_ble_eq_true rfl) (by omega) (by omega) (by omega) (fun v h1 n1 hq => ?_) (fun E h1 n1 hq => absurd hq.1 (by intro q; cases q))
        obtain ⟨hv9, rfl, C2, v20, rfl, hC2, hres⟩ := hq
        obtain rfl := Sum.inl.inj hv9
        exact zs_vret (pc := 118) dM_readCommand_118 rfl (by omega) (by omega) (⟨rfl, rfl, C2, m + 1, _, rfl, Nat.le_refl _, fun i hi => by rw [hC2 i (by omega)]; exact zup_n (by omega), fun q => ⟨rfl, by rw [hC2 _ (by omega)]; exact zup_s, (hres q).1, (hres q).2⟩⟩)
  refine zC_of (ls := [some (.ref a), none, none, none]) hl (by decide +kernel) rfl (Nat.le_of_ble_eq_true rfl) rfl ?_
  refine zs_iconst (pc := 0) dM_readCommand_0 zi_3 ?_
  refine zs_aload_n (pc := 1) dM_readCommand_1 rfl ?_
  refine zs_get (pc := 2) dM_readCommand_2 fM_234 (by first | exact z2_a | exact z2_1 | (rw [z2_n (by omega) (by omega)]; exact zu_s) | (rw [z2_n (by omega) (by omega), zu_n (by omega)]; exact hT) | (rw [z2_n (by omega) (by omega), zu_n (by omega)]; exact hB8) | (rw [z2_n (by omega) (by omega), zu_n (by omega)]; exact hL7)) (by rfl) ?_
  refine zn_imul (pc := 5) dM_readCommand_5 ?_
  refine zs_istore_n (pc := 6) (ls2 := [_, _, _, _]) dM_readCommand_6 (Nat.le_of_ble_eq_true rfl) rfl ?_
  refine zs_iconst (pc := 7) dM_readCommand_7 zi_0 ?_
  refine zs_istore_n (pc := 8) (ls2 := [_, _, _, _]) dM_readCommand_8 (Nat.le_of_ble_eq_true rfl) rfl ?_
  refine zs_iconst (pc := 9) dM_readCommand_9 zi_1 ?_
  refine zs_istore_n (pc := 10) (ls2 := [_, _, _, _]) dM_readCommand_10 (Nat.le_of_ble_eq_true rfl) rfl ?_
  exact lp_M_readCommand hl (by omega) hT hL7 hB8 hn hc hpo hcont 9 0 rfl

