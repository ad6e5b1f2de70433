/-! the model's line -/
def ML (h : zH) (a : Nat) (L : List Nat) : Prop := ∃ u, h (a + 6) = some (zAr 0 600 u) ∧ zTx u L
theorem s_M_sign {Γ : zG} {l : Launch} (hl : l.stackTraces = false) {d : Nat} {h : zH} {n a : Nat} {g : Nat → Nat} {s3 s5 s6 s7 s8 s10 s16 s17 s18 s19 s20 : Int32} {L : List Nat} {c : Nat} (hM : ML h a L) (hL : L.length < 600) : zC Γ l d mM_sign [.ref a, .int (nI c)] (z2 h a (zAr 0 246 (g)) (zMo a s3 s5 s6 s7 s8 s10 (nI L.length) s16 s17 s18 s19 s20)) n 0 0 (fun o h1 n1 => o = .inl none ∧ n1 = n ∧ ∃ hb, h1 = (z2 hb a (zAr 0 246 g) (zMo a s3 s5 s6 s7 s8 s10 (nI (L ++ [c]).length) s16 s17 s18 s19 s20)) ∧ ML hb a (L ++ [c]) ∧ ∀ q, q ≠ a + 6 → hb q = (h) q) := by
  obtain ⟨u, hu, ht⟩ := hM
  have e : (L ++ [c]).length = L.length + 1 := by rw [List.length_append]; rfl
  refine zC_of (ls := [some (.ref a), some (.int (nI c))]) hl (by decide +kernel) rfl (Nat.le_of_ble_eq_true rfl) rfl ?_
  refine zs_aload_n (pc := 0) dM_sign_0 rfl ?_
  refine zs_get (pc := 1) dM_sign_1 fM_32 (by first | exact z2_a | exact z2_1 | (rw [z2_n (by omega) (by omega)]; exact hu)) (by rfl) ?_
  refine zs_aload_n (pc := 4) dM_sign_4 rfl ?_
  refine zs_get (pc := 5) dM_sign_5 fM_180 (by first | exact z2_a | exact z2_1 | (rw [z2_n (by omega) (by omega)]; exact hu)) (by rfl) ?_
  refine zs_iload_n (pc := 8) dM_sign_8 rfl ?_
  refine zn_iast (pc := 9) dM_sign_9 (by first | exact z2_a | exact z2_1 | (rw [z2_n (by omega) (by omega)]; exact hu)) (by omega) (by first | decide | assumption) ?_
  first | rw [z2_G] | rw [z2_q2] | rw [z2_q3] | rw [z2_q4] | rw [z2_q5] | rw [z2_q6] | rw [z2_q9]
  refine zs_aload_n (pc := 10) dM_sign_10 rfl ?_
  refine zs_dup (pc := 11) dM_sign_11 rfl ?_
  refine zs_get (pc := 12) dM_sign_12 fM_180 (by first | exact z2_a | exact z2_1 | (rw [z2_n (by omega) (by omega)]; exact hu)) (by rfl) ?_
  refine zs_iconst (pc := 15) dM_sign_15 zi_1 ?_
  refine zn_iadd (pc := 16) dM_sign_16 ?_
  refine zs_put (pc := 17) (fs2 := [_, _, _, _, _, _, _, _, _, _, _, _, _, _, _, _, _, _, _, _, _]) dM_sign_17 fM_180 (by first | exact z2_a | exact z2_1 | (rw [z2_n (by omega) (by omega)]; exact hu)) (by rfl) (by rfl) (by exact Nat.le_of_ble_eq_true rfl) (by rfl) ?_
  rw [z2_O]
  exact zs_vret (pc := 20) dM_sign_20 rfl (by omega) (by omega) (⟨rfl, rfl, zu h (a + 6) (zAr 0 600 (zup u L.length c)), by rw [e]; rfl, ⟨_, zu_s, ht.put⟩, fun q hq => zu_n hq⟩)
theorem zsg_ab : ∀ m, m < 151 → (if 0 ≤ -(nI m) then -(nI m) else 0 - -(nI m)) = nI m := by decide +kernel
theorem zsg_abs2 {b : Bool} {m : Nat} (h : zsb b m) : (if 0 ≤ zsg b m then zsg b m else 0 - zsg b m) = nI m := by
  obtain ⟨h1, h2⟩ := h
  cases b with
  | true => exact zsg_ab m (h2 rfl)
  | false => exact if_pos (nI_nn (by omega))
theorem zD_gt {m j : Nat} (h : m < 10 ^ 7) (hj : j < zD m) : 9 < m / 10 ^ j ↔ j + 1 < zD m := by
  have h1 := zD_st h hj
  have e1 : m / 10 ^ j / 10 = m / 10 ^ (j + 1) := by rw [Nat.div_div_eq_div_mul, Nat.pow_succ]
  rw [← e1] at h1
  generalize m / 10 ^ j = p at h1 ⊢
  omega
theorem lpa_M_writesNumber {Γ : zG} {l : Launch} (hl : l.stackTraces = false) {d : Nat} (hd : 1 ≤ d) {h : zH} {n a : Nat} {g : Nat → Nat} {s3 s5 s6 s7 s8 s10 s12 s16 s17 s18 s19 s20 : Int32} {m : Nat} {x : Int32} {FN : List Frame → Array Value → State → State → Prop} (hm : m < 10 ^ 7) (K : Z Γ l mM_writesNumber d 0 0 FN 33 [some (.ref a), some (.int x), some (.int (nI m)), some (.int (nI (10 ^ (zD m - 1))))] [] (z2 h a (zAr 0 246 (g)) (zMo a s3 s5 s6 s7 s8 s10 s12 s16 s17 s18 s19 s20)) n 0 0) : ∀ i j, i + j + 1 = zD m → Z Γ l mM_writesNumber d 0 0 FN 17 [some (.ref a), some (.int x), some (.int (nI m)), some (.int (nI (10 ^ j)))] [] (z2 h a (zAr 0 246 (g)) (zMo a s3 s5 s6 s7 s8 s10 s12 s16 s17 s18 s19 s20)) n 0 0 := by
  obtain ⟨d1, d2, -, -⟩ := zD_ok hm
  have hpow : ∀ j, j < 7 → 0 < 10 ^ j ∧ 10 ^ j ≤ 1000000 := fun j hj => ⟨Nat.pow_pos (by decide), Nat.le_trans (Nat.pow_le_pow_right (by decide) (by omega : j ≤ 6)) (by decide)⟩
  intro i
  induction i with
  | zero =>
    intro j hj
    have hp := hpow j (by omega)
    have hdv := Nat.div_le_self m (10 ^ j)
    have hgt := zD_gt hm (j := j) (by omega)
    rw [show zD m - 1 = j by omega] at K
    refine zs_iload_n (pc := 17) dM_writesNumber_17 rfl ?_
    refine zs_iload_n (pc := 18) dM_writesNumber_18 rfl ?_
    refine zn_idiv (pc := 19) dM_writesNumber_19 (by omega) (by omega) (by omega) ?_
    refine zs_bipush (pc := 20) dM_writesNumber_20 (zi_b 9 (by decide)) ?_
    refine zn_icmp_le (pc := 22) 33 dM_writesNumber_22 rfl (by omega) (by omega) (fun _ => ?_) (fun h9 => absurd h9 (by omega))
    exact K
  | succ i ih =>
    intro j hj
    have hp := hpow j (by omega)
    have hdv := Nat.div_le_self m (10 ^ j)
    have hgt := zD_gt hm (j := j) (by omega)
    have hz := ih (j + 1) (by omega)
    rw [Nat.pow_succ] at hz
    refine zs_iload_n (pc := 17) dM_writesNumber_17 rfl ?_
    refine zs_iload_n (pc := 18) dM_writesNumber_18 rfl ?_
    refine zn_idiv (pc := 19) dM_writesNumber_19 (by omega) (by omega) (by omega) ?_
    refine zs_bipush (pc := 20) dM_writesNumber_20 (zi_b 9 (by decide)) ?_
    refine zn_icmp_le (pc := 22) 33 dM_writesNumber_22 rfl (by omega) (by omega) (fun h9 => absurd h9 (by omega)) (fun _ => ?_)
    refine zs_iload_n (pc := 25) dM_writesNumber_25 rfl ?_
    refine zs_bipush (pc := 26) dM_writesNumber_26 (zi_b 10 (by decide)) ?_
    refine zn_imul (pc := 28) dM_writesNumber_28 ?_
    refine zs_istore_n (pc := 29) (ls2 := [_, _, _, _]) dM_writesNumber_29 (Nat.le_of_ble_eq_true rfl) rfl ?_
    refine zs_goto (pc := 30) 17 dM_writesNumber_30 rfl ?_
    exact hz
theorem lpb_M_writesNumber {Γ : zG} {l : Launch} (hl : l.stackTraces = false) {d : Nat} (hd : 1 ≤ d) {n a : Nat} {g : Nat → Nat} {s3 s5 s6 s7 s8 s10 s16 s17 s18 s19 s20 : Int32} {m : Nat} {x : Int32} {h0 : zH} {L9 : List Nat} (hm : m < 10 ^ 7) (hL9 : L9.length ≤ 600) : ∀ j, j ≤ 7 → ∀ (hb : zH) (L : List Nat), ML hb a L → L ++ ydl m j = L9 → (∀ q, q ≠ a + 6 → hb q = h0 q) → Z Γ l mM_writesNumber d 0 0 (zFin Γ (fun o h1 n1 => o = .inl none ∧ n1 = n ∧ ∃ hb, h1 = (z2 hb a (zAr 0 246 g) (zMo a s3 s5 s6 s7 s8 s10 (nI (L9).length) s16 s17 s18 s19 s20)) ∧ ML hb a (L9) ∧ ∀ q, q ≠ a + 6 → hb q = (h0) q) 0 0) 33 [some (.ref a), some (.int x), some (.int (nI m)), some (.int (nI (if j = 0 then 0 else 10 ^ (j - 1))))] [] (z2 (hb) a (zAr 0 246 (g)) (zMo a s3 s5 s6 s7 s8 s10 (nI L.length) s16 s17 s18 s19 s20)) n 0 0 := by
  intro j
  induction j with
  | zero =>
    intro hj hb L hM hL hfr
    have e : L = L9 := by rw [← hL]; exact (List.append_nil L).symm
    subst e
    rw [if_pos rfl]
    refine zs_iload_n (pc := 33) dM_writesNumber_33 rfl ?_
    refine zn_if_le (pc := 34) 58 dM_writesNumber_34 rfl (by omega) (fun _ => ?_) (fun h9 => absurd h9 (by decide))
    exact zs_vret (pc := 58) dM_writesNumber_58 rfl (by omega) (by omega) (⟨rfl, rfl, hb, rfl, hM, hfr⟩)
  | succ j ih =>
    intro hj hb L hM hL hfr
    have hlen : L.length + (j + 1) = L9.length := by rw [← hL, List.length_append, ydl_len]
    have hp : 0 < 10 ^ j ∧ 10 ^ j ≤ 1000000 := ⟨Nat.pow_pos (by decide), Nat.le_trans (Nat.pow_le_pow_right (by decide) (by omega : j ≤ 6)) (by decide)⟩
    have hdv := Nat.div_le_self m (10 ^ j)
    rw [if_neg (by omega), show j + 1 - 1 = j by omega]
    have e10 : 10 ^ j / 10 = if j = 0 then 0 else 10 ^ (j - 1) := by
      cases j with
      | zero => rfl
      | succ j =>
        rw [if_neg (by omega), Nat.pow_succ, Nat.mul_div_cancel _ (by decide)]
        rfl
    refine zs_iload_n (pc := 33) dM_writesNumber_33 rfl ?_
    refine zn_if_le (pc := 34) 58 dM_writesNumber_34 rfl (by omega) (fun h9 => absurd h9 (by omega)) (fun _ => ?_)
    refine zs_aload_n (pc := 37) dM_writesNumber_37 rfl ?_
    refine zs_bipush (pc := 38) dM_writesNumber_38 (zi_b 48 (by decide)) ?_
    refine zs_iload_n (pc := 40) dM_writesNumber_40 rfl ?_
    refine zs_iload_n (pc := 41) dM_writesNumber_41 rfl ?_
    refine zn_idiv (pc := 42) dM_writesNumber_42 (by omega) (by omega) (by omega) ?_
    refine zs_bipush (pc := 43) dM_writesNumber_43 (zi_b 10 (by decide)) ?_
    refine zn_irem (pc := 45) dM_writesNumber_45 (by omega) (by omega) (by omega) ?_
    refine zn_iadd (pc := 46) dM_writesNumber_46 ?_
    refine zcVQ_1 (pc := 47) (d2 := d - 1) (s_M_sign hl hM (by omega)) dM_writesNumber_47 kM_183 mdM_sign miM_sign mvM_sign rfl (by exact z2_a) rfl (Nat.le_of_ble_eq_true rfl) (by omega) (by omega) (by omega) (fun v h1 n1 hq => ?_) (fun E h1 n1 hq => absurd hq.1 (by intro q; cases q))
    obtain ⟨hv9, rfl, hb, rfl, hM, hf9⟩ := hq
    obtain rfl := Sum.inl.inj hv9
    have hfr := fun q (hq : q ≠ a + 6) => (hf9 q hq).trans (hfr q hq)
    refine zs_iload_n (pc := 50) dM_writesNumber_50 rfl ?_
    refine zs_bipush (pc := 51) dM_writesNumber_51 (zi_b 10 (by decide)) ?_
    refine zn_idiv (pc := 53) dM_writesNumber_53 (by omega) (by omega) (by omega) ?_
    rw [e10]
    refine zs_istore_n (pc := 54) (ls2 := [_, _, _, _]) dM_writesNumber_54 (Nat.le_of_ble_eq_true rfl) rfl ?_
    refine zs_goto (pc := 55) 33 dM_writesNumber_55 rfl ?_
    exact ih (by omega) _ _ hM (by rw [List.append_assoc, ← hL]; rfl) hfr
theorem s_M_writesNumber {Γ : zG} {l : Launch} (hl : l.stackTraces = false) {d : Nat} (hd : 1 ≤ d) {h : zH} {n a : Nat} {g : Nat → Nat} {s3 s5 s6 s7 s8 s10 s16 s17 s18 s19 s20 : Int32} {L : List Nat} {b : Bool} {m : Nat} (hM : ML h a L) (hm : zsb b m) (hb9 : b = true → 1 ≤ m) (hL : L.length + 8 ≤ 600) : zC Γ l d mM_writesNumber [.ref a, .int (zsg b m)] (z2 h a (zAr 0 246 (g)) (zMo a s3 s5 s6 s7 s8 s10 (nI L.length) s16 s17 s18 s19 s20)) n 0 0 (fun o h1 n1 => o = .inl none ∧ n1 = n ∧ ∃ hb, h1 = (z2 hb a (zAr 0 246 g) (zMo a s3 s5 s6 s7 s8 s10 (nI (L ++ znum b m).length) s16 s17 s18 s19 s20)) ∧ ML hb a (L ++ znum b m) ∧ ∀ q, q ≠ a + 6 → hb q = (h) q) := by
  obtain ⟨d1, d2, -, -⟩ := zD_ok hm.1
  have hab := zsg_abs2 hm
  have hfr : ∀ q, q ≠ a + 6 → h q = h q := fun q _ => rfl
  have hlen : (L ++ znum b m).length ≤ 600 := by
    have := znum_len (b := b) hm.1
    rw [List.length_append]
    omega
  have main : ∀ (hb : zH) (L1 : List Nat), ML hb a L1 → (∀ q, q ≠ a + 6 → hb q = h q) → L1 ++ ydl m (zD m) = L ++ znum b m → Z Γ l mM_writesNumber d 0 0 (zFin Γ (fun o h1 n1 => o = .inl none ∧ n1 = n ∧ ∃ hb, h1 = (z2 hb a (zAr 0 246 g) (zMo a s3 s5 s6 s7 s8 s10 (nI (L ++ znum b m).length) s16 s17 s18 s19 s20)) ∧ ML hb a (L ++ znum b m) ∧ ∀ q, q ≠ a + 6 → hb q = (h) q) 0 0) 10 [some (.ref a), some (.int (zsg b m)), none, none] [] (z2 (hb) a (zAr 0 246 (g)) (zMo a s3 s5 s6 s7 s8 s10 (nI L1.length) s16 s17 s18 s19 s20)) n 0 0 := by
    intro hb L1 hM1 hfr1 he
    have hz := lpb_M_writesNumber (Γ := Γ) (l := l) (h0 := h) (x := zsg b m) (g := g) hl (d := d) (n := n) (s3 := s3) (s5 := s5) (s6 := s6) (s7 := s7) (s8 := s8) (s10 := s10) (s16 := s16) (s17 := s17) (s18 := s18) (s19 := s19) (s20 := s20) hd hm.1 hlen (zD m) (by omega) hb L1 hM1 he hfr1
    rw [if_neg (by omega)] at hz
    refine zs_iload_n (pc := 10) dM_writesNumber_10 rfl ?_
    refine zs_mabs (pc := 11) dM_writesNumber_11 kM_186 (Nat.le_of_ble_eq_true rfl) (by omega) (by omega) ?_
    rw [hab]
    refine zs_istore_n (pc := 14) (ls2 := [_, _, _, _]) dM_writesNumber_14 (Nat.le_of_ble_eq_true rfl) rfl ?_
    refine zs_iconst (pc := 15) dM_writesNumber_15 zi_1 ?_
    refine zs_istore_n (pc := 16) (ls2 := [_, _, _, _]) dM_writesNumber_16 (Nat.le_of_ble_eq_true rfl) rfl ?_
    exact lpa_M_writesNumber hl hd hm.1 hz (zD m - 1) 0 (by omega)
  refine zC_of (ls := [some (.ref a), some (.int (zsg b m)), none, none]) hl (by decide +kernel) rfl (Nat.le_of_ble_eq_true rfl) rfl ?_
  cases b with
  | true =>
    have hm2 := hm.2 rfl
    have hneg : ¬ 0 ≤ zsg true m := fun q => by
      have := (zsg_t m hm2).2.2.2.mp q
      have := hb9 rfl
      omega
    refine zs_iload_n (pc := 0) dM_writesNumber_0 rfl ?_
    refine zs_if_ge (pc := 1) 10 dM_writesNumber_1 rfl (fun h9 => absurd h9 (hneg)) (fun _ => ?_)
    refine zs_aload_n (pc := 4) dM_writesNumber_4 rfl ?_
    refine zs_bipush (pc := 5) dM_writesNumber_5 (zi_b 45 (by decide)) ?_
    refine zcVQ_1 (pc := 7) (d2 := d - 1) (s_M_sign hl hM (by omega)) dM_writesNumber_7 kM_183 mdM_sign miM_sign mvM_sign rfl (by exact z2_a) rfl (Nat.le_of_ble_eq_true rfl) (by omega) (by omega) (by omega) (fun v h1 n1 hq => ?_) (fun E h1 n1 hq => absurd hq.1 (by intro q; cases q))
    obtain ⟨hv9, rfl, hb, rfl, hM, hf9⟩ := hq
    obtain rfl := Sum.inl.inj hv9
    have hfr := fun q (hq : q ≠ a + 6) => (hf9 q hq).trans (hfr q hq)
    exact main _ _ hM hfr (by rw [List.append_assoc]; rfl)
  | false =>
    refine zs_iload_n (pc := 0) dM_writesNumber_0 rfl ?_
    refine zs_if_ge (pc := 1) 10 dM_writesNumber_1 rfl (fun _ => ?_) (fun h9 => absurd h9 (fun q => q (nI_nn (by have := hm.1; omega))))
    exact main _ _ hM hfr rfl
theorem s_M_writes {Γ : zG} {l : Launch} (hl : l.stackTraces = false) {d : Nat} (hd : 2 ≤ d) {h : zH} {n a : Nat} {g : Nat → Nat} {s3 s5 s6 s7 s8 s10 s16 s17 s18 s19 s20 : Int32} {L : List Nat} {c m : Nat} (hM : ML h a L) (hm : m < 10 ^ 7) (hL : L.length + 9 ≤ 600) : zC Γ l d mM_writes [.ref a, .int (nI c), .int (nI m)] (z2 h a (zAr 0 246 (g)) (zMo a s3 s5 s6 s7 s8 s10 (nI L.length) s16 s17 s18 s19 s20)) n 0 0 (fun o h1 n1 => o = .inl none ∧ n1 = n ∧ ∃ hb, h1 = (z2 hb a (zAr 0 246 g) (zMo a s3 s5 s6 s7 s8 s10 (nI (L ++ [c] ++ ydl m (zD m)).length) s16 s17 s18 s19 s20)) ∧ ML hb a (L ++ [c] ++ ydl m (zD m)) ∧ ∀ q, q ≠ a + 6 → hb q = (h) q) := by
  have hfr : ∀ q, q ≠ a + 6 → h q = h q := fun q _ => rfl
  refine zC_of (ls := [some (.ref a), some (.int (nI c)), some (.int (nI m))]) hl (by decide +kernel) rfl (Nat.le_of_ble_eq_true rfl) rfl ?_
  refine zs_aload_n (pc := 0) dM_writes_0 rfl ?_
  refine zs_iload_n (pc := 1) dM_writes_1 rfl ?_
  refine zcVQ_1 (pc := 2) (d2 := d - 1) (s_M_sign hl hM (by omega)) dM_writes_2 kM_183 mdM_sign miM_sign mvM_sign rfl (by exact z2_a) rfl (Nat.le_of_ble_eq_true rfl) (by omega) (by omega) (by omega) (fun v h1 n1 hq => ?_) (fun E h1 n1 hq => absurd hq.1 (by intro q; cases q))
  obtain ⟨hv9, rfl, hb, rfl, hM, hf9⟩ := hq
  obtain rfl := Sum.inl.inj hv9
  have hfr := fun q (hq : q ≠ a + 6) => (hf9 q hq).trans (hfr q hq)
  refine zs_aload_n (pc := 5) dM_writes_5 rfl ?_
  refine zs_iload_n (pc := 6) dM_writes_6 rfl ?_
  refine zcVQ_1 (pc := 7) (d2 := d - 1) (s_M_writesNumber (b := false) hl (by omega) hM ⟨hm, fun q => by cases q⟩ (fun q => by cases q) (by rw [List.length_append]; show L.length + 1 + 8 ≤ 600; omega)) dM_writes_7 kM_189 mdM_writesNumber miM_writesNumber mvM_writesNumber rfl (by exact z2_a) rfl (Nat.le_of_ble_eq_true rfl) (by omega) (by omega) (by omega) (fun v h1 n1 hq => ?_) (fun E h1 n1 hq => absurd hq.1 (by intro q; cases q))
  obtain ⟨hv9, rfl, hb, rfl, hM, hf9⟩ := hq
  obtain rfl := Sum.inl.inj hv9
  have hfr := fun q (hq : q ≠ a + 6) => (hf9 q hq).trans (hfr q hq)
  exact zs_vret (pc := 10) dM_writes_10 rfl (by omega) (by omega) (⟨rfl, rfl, hb, rfl, hM, hfr⟩)

