/-! the model's lines -/
theorem lp_M_formatEntry {Γ : zG} {l : Launch} (hl : l.stackTraces = false) {d : Nat} (hd : 4 ≤ d) {h : zH} {n a : Nat} {g : Nat → Nat} {s3 s5 s6 s7 s10 s16 s17 s18 s19 s20 : Int32} {k : Nat} {y : Int32} {FN : List Frame → Array Value → State → State → Prop} (hk : k < 20) (hbe : zEb (eg g k)) (K : ∀ hb : zH, ML hb a (zfe (eg g k) (eg g k 5)) → (∀ q, q ≠ a + 6 → hb q = h q) → Z Γ l mM_formatEntry d 0 0 FN 201 [some (.ref a), some (.int y), some (.int (nI k)), some (.int (nI (6 + 12 * k))), some (.int (nI (eg g k 5)))] [] (z2 (hb) a (zAr 0 246 (g)) (zMo a s3 s5 s6 s7 (nI 0) s10 (nI (zfe (eg g k) (eg g k 5)).length) s16 s17 s18 s19 s20)) n 0 0) : ∀ i j, i + j = eg g k 5 → ∀ hb : zH, ML hb a (zfe (eg g k) j) → (∀ q, q ≠ a + 6 → hb q = h q) → Z Γ l mM_formatEntry d 0 0 FN 122 [some (.ref a), some (.int y), some (.int (nI k)), some (.int (nI (6 + 12 * k))), some (.int (nI j))] [] (z2 (hb) a (zAr 0 246 (g)) (zMo a s3 s5 s6 s7 (nI 0) s10 (nI (zfe (eg g k) j).length) s16 s17 s18 s19 s20)) n 0 0 := by
  have hlen := zfe_len hbe
  have e5 : g (6 + 12 * k + 5) = eg g k 5 := rfl
  obtain ⟨b0, b1, b2, b3, b4, b5, b6⟩ := hbe
  intro i
  induction i with
  | zero =>
    intro j hj hb hM hfr
    obtain rfl : j = eg g k 5 := by omega
    refine zs_iload (pc := 122) dM_formatEntry_122 rfl ?_
    refine zs_aload_n (pc := 124) dM_formatEntry_124 rfl ?_
    refine zs_get (pc := 125) dM_formatEntry_125 fM_9 (by first | exact z2_a | exact z2_1 | (rw [z2_n (by omega) (by omega)]; exact hu)) (by rfl) ?_
    refine zs_iload_n (pc := 128) dM_formatEntry_128 rfl ?_
    refine zs_iconst (pc := 129) dM_formatEntry_129 zi_5 ?_
    refine zn_iadd (pc := 130) dM_formatEntry_130 ?_
    refine zn_iald (pc := 131) dM_formatEntry_131 (by first | exact z2_a | exact z2_1 | (rw [z2_n (by omega) (by omega)]; exact hu)) (by omega) (by first | decide | assumption) ?_
    refine zn_icmp_ge (pc := 132) 201 dM_formatEntry_132 rfl (by omega) (by omega) (fun _ => ?_) (fun h9 => absurd h9 (by omega))
    exact K hb hM hfr
  | succ i ih =>
    intro j hj hb hM hfr
    have hl1 := hlen j
    have hc := b6 j (by omega)
    have hz := ih (j + 1) (by omega)
    have ez : zfe (eg g k) j ++ [32] ++ [48 + eg g k (6 + j) / 100] ++ [48 + eg g k (6 + j) / 10 % 10] ++ [48 + eg g k (6 + j) % 10] = zfe (eg g k) (j + 1) := by
      rw [List.append_assoc, List.append_assoc]
      rfl
    refine zs_iload (pc := 122) dM_formatEntry_122 rfl ?_
    refine zs_aload_n (pc := 124) dM_formatEntry_124 rfl ?_
    refine zs_get (pc := 125) dM_formatEntry_125 fM_9 (by first | exact z2_a | exact z2_1 | (rw [z2_n (by omega) (by omega)]; exact hu)) (by rfl) ?_
    refine zs_iload_n (pc := 128) dM_formatEntry_128 rfl ?_
    refine zs_iconst (pc := 129) dM_formatEntry_129 zi_5 ?_
    refine zn_iadd (pc := 130) dM_formatEntry_130 ?_
    refine zn_iald (pc := 131) dM_formatEntry_131 (by first | exact z2_a | exact z2_1 | (rw [z2_n (by omega) (by omega)]; exact hu)) (by omega) (by first | decide | assumption) ?_
    refine zn_icmp_ge (pc := 132) 201 dM_formatEntry_132 rfl (by omega) (by omega) (fun h9 => absurd h9 (by omega)) (fun _ => ?_)
    refine zs_aload_n (pc := 135) dM_formatEntry_135 rfl ?_
    refine zs_bipush (pc := 136) dM_formatEntry_136 (zi_b 32 (by decide)) ?_
    refine zcVQ_1 (pc := 138) (d2 := d - 1) (s_M_sign hl hM (by omega)) dM_formatEntry_138 kM_183 mdM_sign miM_sign mvM_sign rfl (by exact z2_a) rfl (Nat.le_of_ble_eq_true rfl) (by omega) (by omega) (by omega) (fun v h1 n1 hq => ?_) (fun E h1 n1 hq => absurd hq.1 (by intro q; cases q))
    obtain ⟨hv9, rfl, hb, rfl, hM, hf9⟩ := hq
    obtain rfl := Sum.inl.inj hv9
    have hfr := fun q (hq : q ≠ a + 6) => (hf9 q hq).trans (hfr q hq)
    refine zs_aload_n (pc := 141) dM_formatEntry_141 rfl ?_
    refine zs_bipush (pc := 142) dM_formatEntry_142 (zi_b 48 (by decide)) ?_
    refine zs_aload_n (pc := 144) dM_formatEntry_144 rfl ?_
    refine zs_iload_n (pc := 145) dM_formatEntry_145 rfl ?_
    refine zs_iload (pc := 146) dM_formatEntry_146 rfl ?_
    refine zcV1_2 (pc := 148) (d2 := d - 1) (s_M_codeOf hl (by omega) hk (by omega)) dM_formatEntry_148 kM_62 mdM_codeOf miM_codeOf mvM_codeOf rfl (by exact z2_a) rfl (Nat.le_of_ble_eq_true rfl) (by omega) (by omega) (by omega) ?_
    refine zs_bipush (pc := 151) dM_formatEntry_151 (zi_b 100 (by decide)) ?_
    refine zn_idiv (pc := 153) dM_formatEntry_153 (by omega) (by omega) (by omega) ?_
    refine zn_iadd (pc := 154) dM_formatEntry_154 ?_
    refine zcVQ_1 (pc := 155) (d2 := d - 1) (s_M_sign hl hM (by rw [List.length_append]; show _ + 1 < 600; omega)) dM_formatEntry_155 kM_183 mdM_sign miM_sign mvM_sign rfl (by exact z2_a) rfl (Nat.le_of_ble_eq_true rfl) (by omega) (by omega) (by omega) (fun v h1 n1 hq => ?_) (fun E h1 n1 hq => absurd hq.1 (by intro q; cases q))
    obtain ⟨hv9, rfl, hb, rfl, hM, hf9⟩ := hq
    obtain rfl := Sum.inl.inj hv9
    have hfr := fun q (hq : q ≠ a + 6) => (hf9 q hq).trans (hfr q hq)
    refine zs_aload_n (pc := 158) dM_formatEntry_158 rfl ?_
    refine zs_bipush (pc := 159) dM_formatEntry_159 (zi_b 48 (by decide)) ?_
    refine zs_aload_n (pc := 161) dM_formatEntry_161 rfl ?_
    refine zs_iload_n (pc := 162) dM_formatEntry_162 rfl ?_
    refine zs_iload (pc := 163) dM_formatEntry_163 rfl ?_
    refine zcV1_2 (pc := 165) (d2 := d - 1) (s_M_codeOf hl (by omega) hk (by omega)) dM_formatEntry_165 kM_62 mdM_codeOf miM_codeOf mvM_codeOf rfl (by exact z2_a) rfl (Nat.le_of_ble_eq_true rfl) (by omega) (by omega) (by omega) ?_
    refine zs_bipush (pc := 168) dM_formatEntry_168 (zi_b 10 (by decide)) ?_
    refine zn_idiv (pc := 170) dM_formatEntry_170 (by omega) (by omega) (by omega) ?_
    refine zs_bipush (pc := 171) dM_formatEntry_171 (zi_b 10 (by decide)) ?_
    refine zn_irem (pc := 173) dM_formatEntry_173 (by omega) (by omega) (by omega) ?_
    refine zn_iadd (pc := 174) dM_formatEntry_174 ?_
    refine zcVQ_1 (pc := 175) (d2 := d - 1) (s_M_sign hl hM (by rw [List.length_append, List.length_append]; show _ + 1 + 1 < 600; omega)) dM_formatEntry_175 kM_183 mdM_sign miM_sign mvM_sign rfl (by exact z2_a) rfl (Nat.le_of_ble_eq_true rfl) (by omega) (by omega) (by omega) (fun v h1 n1 hq => ?_) (fun E h1 n1 hq => absurd hq.1 (by intro q; cases q))
    obtain ⟨hv9, rfl, hb, rfl, hM, hf9⟩ := hq
    obtain rfl := Sum.inl.inj hv9
    have hfr := fun q (hq : q ≠ a + 6) => (hf9 q hq).trans (hfr q hq)
    refine zs_aload_n (pc := 178) dM_formatEntry_178 rfl ?_
    refine zs_bipush (pc := 179) dM_formatEntry_179 (zi_b 48 (by decide)) ?_
    refine zs_aload_n (pc := 181) dM_formatEntry_181 rfl ?_
    refine zs_iload_n (pc := 182) dM_formatEntry_182 rfl ?_
    refine zs_iload (pc := 183) dM_formatEntry_183 rfl ?_
    refine zcV1_2 (pc := 185) (d2 := d - 1) (s_M_codeOf hl (by omega) hk (by omega)) dM_formatEntry_185 kM_62 mdM_codeOf miM_codeOf mvM_codeOf rfl (by exact z2_a) rfl (Nat.le_of_ble_eq_true rfl) (by omega) (by omega) (by omega) ?_
    refine zs_bipush (pc := 188) dM_formatEntry_188 (zi_b 10 (by decide)) ?_
    refine zn_irem (pc := 190) dM_formatEntry_190 (by omega) (by omega) (by omega) ?_
    refine zn_iadd (pc := 191) dM_formatEntry_191 ?_
    refine zcVQ_1 (pc := 192) (d2 := d - 1) (s_M_sign hl hM (by rw [List.length_append, List.length_append, List.length_append]; show _ + 1 + 1 + 1 < 600; omega)) dM_formatEntry_192 kM_183 mdM_sign miM_sign mvM_sign rfl (by exact z2_a) rfl (Nat.le_of_ble_eq_true rfl) (by omega) (by omega) (by omega) (fun v h1 n1 hq => ?_) (fun E h1 n1 hq => absurd hq.1 (by intro q; cases q))
    obtain ⟨hv9, rfl, hb, rfl, hM, hf9⟩ := hq
    obtain rfl := Sum.inl.inj hv9
    have hfr := fun q (hq : q ≠ a + 6) => (hf9 q hq).trans (hfr q hq)
    rw [ez] at hM ⊢
    refine zn_iinc (pc := 195) (ls2 := [_, _, _, _, _]) dM_formatEntry_195 rfl (Nat.le_of_ble_eq_true rfl) rfl ?_
    refine zs_goto (pc := 198) 122 dM_formatEntry_198 rfl ?_
    exact hz hb hM hfr
theorem s_M_formatEntry {Γ : zG} {l : Launch} (hl : l.stackTraces = false) {d : Nat} (hd : 4 ≤ d) {h : zH} {n a : Nat} {g : Nat → Nat} {s3 s5 s6 s7 s8 s10 s12 s16 s17 s18 s19 s20 : Int32} {B : Nat} {L : List Nat} (hM : ML h a L) (hI : IG B g) (hB : B < 2 ^ 20) (y : Int32) : zC Γ l d mM_formatEntry [.ref a, .int y] (z2 h a (zAr 0 246 (g)) (zMo a s3 s5 s6 s7 s8 s10 (nI L.length) s16 s17 s18 s19 s20)) n 0 0 (fun o h1 n1 => o = .inl (some (.int (aFmtE g y).2)) ∧ n1 = n ∧ ∃ hb, h1 = (z2 (hb) a (zAr 0 246 (g)) (zMo a s3 s5 s6 s7 (nI (aFmtE g y).1) s10 (nI (zLe g y L).length) s16 s17 s18 s19 s20)) ∧ ML hb a (zLe g y L) ∧ ∀ q, q ≠ a + 6 → hb q = h q) := by
  have i0 := hI.1
  unfold aFmtE zLe
  have hfr : ∀ q, q ≠ a + 6 → h q = h q := fun q _ => rfl
  refine zC_of (ls := [some (.ref a), some (.int y), none, none, none]) hl (by decide +kernel) rfl (Nat.le_of_ble_eq_true rfl) rfl ?_
  cases hH : zHas g y with
  | false =>
    rw [if_neg (by decide), if_neg (by decide)]
    refine zs_aload_n (pc := 0) dM_formatEntry_0 rfl ?_
    refine zs_iconst (pc := 1) dM_formatEntry_1 zi_0 ?_
    refine zs_put (pc := 2) (fs2 := [_, _, _, _, _, _, _, _, _, _, _, _, _, _, _, _, _, _, _, _, _]) dM_formatEntry_2 fM_45 (by first | exact z2_a | exact z2_1 | (rw [z2_n (by omega) (by omega)]; exact hu)) (by rfl) (by rfl) (by exact Nat.le_of_ble_eq_true rfl) (by rfl) ?_
    rw [z2_O]
    refine zs_aload_n (pc := 5) dM_formatEntry_5 rfl ?_
    refine zs_iload_n (pc := 6) dM_formatEntry_6 rfl ?_
    refine zcV1_1 (pc := 7) (d2 := d - 1) (s_M_find_n hl (by omega) i0 hH) dM_formatEntry_7 kM_102 mdM_find miM_find mvM_find rfl (by exact z2_a) rfl (Nat.le_of_ble_eq_true rfl) (by omega) (by omega) (by omega) ?_
    refine zs_istore_n (pc := 10) (ls2 := [_, _, _, _, _]) dM_formatEntry_10 (Nat.le_of_ble_eq_true rfl) rfl ?_
    refine zs_iload_n (pc := 11) dM_formatEntry_11 rfl ?_
    refine zs_iconst (pc := 12) dM_formatEntry_12 zi_m1 ?_
    refine zs_icmp_ne (pc := 13) 22 dM_formatEntry_13 rfl (fun h9 => absurd h9 (fun q => q rfl)) (fun _ => ?_)
    refine zs_aload_n (pc := 16) dM_formatEntry_16 rfl ?_
    refine zs_iconst (pc := 17) dM_formatEntry_17 zi_1 ?_
    refine zcV1_1 (pc := 18) (d2 := d - 1) (s_M_throwing hl) dM_formatEntry_18 kM_90 mdM_throwing miM_throwing mvM_throwing rfl (by exact z2_a) rfl (Nat.le_of_ble_eq_true rfl) (by omega) (by omega) (by omega) ?_
    exact zs_iret (pc := 21) dM_formatEntry_21 rfl rfl (by omega) (by omega) (⟨rfl, rfl, h, rfl, hM, hfr⟩)
  | true =>
    rw [if_pos rfl, if_pos rfl]
    obtain ⟨f1, f2, f3⟩ := zHas_y hH
    generalize zAt g y = k at f1 f2 f3 ⊢
    subst f2
    have hbe := hI.b hB f1
    have hb9 := hbe
    obtain ⟨b0, b1, b2, b3, b4, b5, b6⟩ := hb9
    have z0 := zD_le (m := eg g k 0) (by omega)
    have z1 := zD_le (m := eg g k 1) (by omega)
    have z2' := zD_le (m := eg g k 2) (by omega)
    have z3 := zD_le (m := eg g k 3) (by omega)
    have a1 : g (6 + 12 * k + 1) = eg g k 1 := rfl
    have a2 : g (6 + 12 * k + 2) = eg g k 2 := rfl
    have a3 : g (6 + 12 * k + 3) = eg g k 3 := rfl
    have a4 : g (6 + 12 * k + 4) = eg g k 4 := rfl
    obtain ⟨u0, hu0, -⟩ := hM
    have hM : ML h a [] := ⟨u0, hu0, fun i hi => absurd hi (by show ¬ i < 0; omega)⟩
    have e0 : nI ([] : List Nat).length = nI 0 := rfl
    refine zs_aload_n (pc := 0) dM_formatEntry_0 rfl ?_
    refine zs_iconst (pc := 1) dM_formatEntry_1 zi_0 ?_
    refine zs_put (pc := 2) (fs2 := [_, _, _, _, _, _, _, _, _, _, _, _, _, _, _, _, _, _, _, _, _]) dM_formatEntry_2 fM_45 (by first | exact z2_a | exact z2_1 | (rw [z2_n (by omega) (by omega)]; exact hu)) (by rfl) (by rfl) (by exact Nat.le_of_ble_eq_true rfl) (by rfl) ?_
    rw [z2_O]
    refine zs_aload_n (pc := 5) dM_formatEntry_5 rfl ?_
    refine zs_iload_n (pc := 6) dM_formatEntry_6 rfl ?_
    refine zcV1_1 (pc := 7) (d2 := d - 1) (s_M_find_y hl (by omega) i0 f1 rfl f3) dM_formatEntry_7 kM_102 mdM_find miM_find mvM_find rfl (by exact z2_a) rfl (Nat.le_of_ble_eq_true rfl) (by omega) (by omega) (by omega) ?_
    refine zs_istore_n (pc := 10) (ls2 := [_, _, _, _, _]) dM_formatEntry_10 (Nat.le_of_ble_eq_true rfl) rfl ?_
    refine zs_iload_n (pc := 11) dM_formatEntry_11 rfl ?_
    refine zs_iconst (pc := 12) dM_formatEntry_12 zi_m1 ?_
    refine zs_icmp_ne (pc := 13) 22 dM_formatEntry_13 rfl (fun _ => ?_) (fun h9 => absurd h9 (nI_kn (by omega)))
    refine zs_iload_n (pc := 22) dM_formatEntry_22 rfl ?_
    refine zcS1_1 (pc := 23) (d2 := d - 1) (s_M_entryAt hl) dM_formatEntry_23 kM_51 mdM_entryAt msM_entryAt rfl (Nat.le_of_ble_eq_true rfl) (by omega) (by omega) (by omega) ?_
    refine zs_istore_n (pc := 26) (ls2 := [_, _, _, _, _]) dM_formatEntry_26 (Nat.le_of_ble_eq_true rfl) rfl ?_
    refine zs_aload_n (pc := 27) dM_formatEntry_27 rfl ?_
    refine zs_iconst (pc := 28) dM_formatEntry_28 zi_0 ?_
    refine zs_put (pc := 29) (fs2 := [_, _, _, _, _, _, _, _, _, _, _, _, _, _, _, _, _, _, _, _, _]) dM_formatEntry_29 fM_180 (by first | exact z2_a | exact z2_1 | (rw [z2_n (by omega) (by omega)]; exact hu)) (by rfl) (by rfl) (by exact Nat.le_of_ble_eq_true rfl) (by rfl) ?_
    rw [z2_O]
    refine zs_aload_n (pc := 32) dM_formatEntry_32 rfl ?_
    refine zs_bipush (pc := 33) dM_formatEntry_33 (zi_b 101 (by decide)) ?_
    refine zs_iload_n (pc := 35) dM_formatEntry_35 rfl ?_
    refine zcVQ_2 (pc := 36) (d2 := d - 1) (s_M_writes (L := []) hl (by omega) hM (by omega) (by decide)) dM_formatEntry_36 kM_192 mdM_writes miM_writes mvM_writes rfl (by exact z2_a) rfl (Nat.le_of_ble_eq_true rfl) (by omega) (by omega) (by omega) (fun v h1 n1 hq => ?_) (fun E h1 n1 hq => absurd hq.1 (by intro q; cases q))
    obtain ⟨hv9, rfl, hb, rfl, hM, hf9⟩ := hq
    obtain rfl := Sum.inl.inj hv9
    have hfr := fun q (hq : q ≠ a + 6) => (hf9 q hq).trans (hfr q hq)
    refine zs_aload_n (pc := 39) dM_formatEntry_39 rfl ?_
    refine zs_bipush (pc := 40) dM_formatEntry_40 (zi_b 32 (by decide)) ?_
    refine zcVQ_1 (pc := 42) (d2 := d - 1) (s_M_sign hl hM (by simp only [List.length_append, ydl_len, List.length_cons, List.length_nil]; omega)) dM_formatEntry_42 kM_183 mdM_sign miM_sign mvM_sign rfl (by exact z2_a) rfl (Nat.le_of_ble_eq_true rfl) (by omega) (by omega) (by omega) (fun v h1 n1 hq => ?_) (fun E h1 n1 hq => absurd hq.1 (by intro q; cases q))
    obtain ⟨hv9, rfl, hb, rfl, hM, hf9⟩ := hq
    obtain rfl := Sum.inl.inj hv9
    have hfr := fun q (hq : q ≠ a + 6) => (hf9 q hq).trans (hfr q hq)
    refine zs_aload_n (pc := 45) dM_formatEntry_45 rfl ?_
    refine zs_bipush (pc := 46) dM_formatEntry_46 (zi_b 119 (by decide)) ?_
    refine zs_aload_n (pc := 48) dM_formatEntry_48 rfl ?_
    refine zs_get (pc := 49) dM_formatEntry_49 fM_9 (by first | exact z2_a | exact z2_1 | (rw [z2_n (by omega) (by omega)]; exact hu)) (by rfl) ?_
    refine zs_iload_n (pc := 52) dM_formatEntry_52 rfl ?_
    refine zs_iconst (pc := 53) dM_formatEntry_53 zi_1 ?_
    refine zn_iadd (pc := 54) dM_formatEntry_54 ?_
    refine zn_iald (pc := 55) dM_formatEntry_55 (by first | exact z2_a | exact z2_1 | (rw [z2_n (by omega) (by omega)]; exact hu)) (by omega) (by first | decide | assumption) ?_
    rw [a1]
    refine zcVQ_2 (pc := 56) (d2 := d - 1) (s_M_writes hl (by omega) hM (by omega) (by simp only [List.length_append, ydl_len, List.length_cons, List.length_nil]; omega)) dM_formatEntry_56 kM_192 mdM_writes miM_writes mvM_writes rfl (by exact z2_a) rfl (Nat.le_of_ble_eq_true rfl) (by omega) (by omega) (by omega) (fun v h1 n1 hq => ?_) (fun E h1 n1 hq => absurd hq.1 (by intro q; cases q))
    obtain ⟨hv9, rfl, hb, rfl, hM, hf9⟩ := hq
    obtain rfl := Sum.inl.inj hv9
    have hfr := fun q (hq : q ≠ a + 6) => (hf9 q hq).trans (hfr q hq)
    refine zs_aload_n (pc := 59) dM_formatEntry_59 rfl ?_
    refine zs_bipush (pc := 60) dM_formatEntry_60 (zi_b 32 (by decide)) ?_
    refine zcVQ_1 (pc := 62) (d2 := d - 1) (s_M_sign hl hM (by simp only [List.length_append, ydl_len, List.length_cons, List.length_nil]; omega)) dM_formatEntry_62 kM_183 mdM_sign miM_sign mvM_sign rfl (by exact z2_a) rfl (Nat.le_of_ble_eq_true rfl) (by omega) (by omega) (by omega) (fun v h1 n1 hq => ?_) (fun E h1 n1 hq => absurd hq.1 (by intro q; cases q))
    obtain ⟨hv9, rfl, hb, rfl, hM, hf9⟩ := hq
    obtain rfl := Sum.inl.inj hv9
    have hfr := fun q (hq : q ≠ a + 6) => (hf9 q hq).trans (hfr q hq)
    refine zs_aload_n (pc := 65) dM_formatEntry_65 rfl ?_
    refine zs_bipush (pc := 66) dM_formatEntry_66 (zi_b 97 (by decide)) ?_
    refine zs_aload_n (pc := 68) dM_formatEntry_68 rfl ?_
    refine zs_get (pc := 69) dM_formatEntry_69 fM_9 (by first | exact z2_a | exact z2_1 | (rw [z2_n (by omega) (by omega)]; exact hu)) (by rfl) ?_
    refine zs_iload_n (pc := 72) dM_formatEntry_72 rfl ?_
    refine zs_iconst (pc := 73) dM_formatEntry_73 zi_2 ?_
    refine zn_iadd (pc := 74) dM_formatEntry_74 ?_
    refine zn_iald (pc := 75) dM_formatEntry_75 (by first | exact z2_a | exact z2_1 | (rw [z2_n (by omega) (by omega)]; exact hu)) (by omega) (by first | decide | assumption) ?_
    rw [a2]
    refine zcVQ_2 (pc := 76) (d2 := d - 1) (s_M_writes hl (by omega) hM (by omega) (by simp only [List.length_append, ydl_len, List.length_cons, List.length_nil]; omega)) dM_formatEntry_76 kM_192 mdM_writes miM_writes mvM_writes rfl (by exact z2_a) rfl (Nat.le_of_ble_eq_true rfl) (by omega) (by omega) (by omega) (fun v h1 n1 hq => ?_) (fun E h1 n1 hq => absurd hq.1 (by intro q; cases q))
    obtain ⟨hv9, rfl, hb, rfl, hM, hf9⟩ := hq
    obtain rfl := Sum.inl.inj hv9
    have hfr := fun q (hq : q ≠ a + 6) => (hf9 q hq).trans (hfr q hq)
    refine zs_aload_n (pc := 79) dM_formatEntry_79 rfl ?_
    refine zs_bipush (pc := 80) dM_formatEntry_80 (zi_b 32 (by decide)) ?_
    refine zcVQ_1 (pc := 82) (d2 := d - 1) (s_M_sign hl hM (by simp only [List.length_append, ydl_len, List.length_cons, List.length_nil]; omega)) dM_formatEntry_82 kM_183 mdM_sign miM_sign mvM_sign rfl (by exact z2_a) rfl (Nat.le_of_ble_eq_true rfl) (by omega) (by omega) (by omega) (fun v h1 n1 hq => ?_) (fun E h1 n1 hq => absurd hq.1 (by intro q; cases q))
    obtain ⟨hv9, rfl, hb, rfl, hM, hf9⟩ := hq
    obtain rfl := Sum.inl.inj hv9
    have hfr := fun q (hq : q ≠ a + 6) => (hf9 q hq).trans (hfr q hq)
    refine zs_aload_n (pc := 85) dM_formatEntry_85 rfl ?_
    refine zs_bipush (pc := 86) dM_formatEntry_86 (zi_b 104 (by decide)) ?_
    refine zs_aload_n (pc := 88) dM_formatEntry_88 rfl ?_
    refine zs_get (pc := 89) dM_formatEntry_89 fM_9 (by first | exact z2_a | exact z2_1 | (rw [z2_n (by omega) (by omega)]; exact hu)) (by rfl) ?_
    refine zs_iload_n (pc := 92) dM_formatEntry_92 rfl ?_
    refine zs_iconst (pc := 93) dM_formatEntry_93 zi_3 ?_
    refine zn_iadd (pc := 94) dM_formatEntry_94 ?_
    refine zn_iald (pc := 95) dM_formatEntry_95 (by first | exact z2_a | exact z2_1 | (rw [z2_n (by omega) (by omega)]; exact hu)) (by omega) (by first | decide | assumption) ?_
    rw [a3]
    refine zcVQ_2 (pc := 96) (d2 := d - 1) (s_M_writes hl (by omega) hM (by omega) (by simp only [List.length_append, ydl_len, List.length_cons, List.length_nil]; omega)) dM_formatEntry_96 kM_192 mdM_writes miM_writes mvM_writes rfl (by exact z2_a) rfl (Nat.le_of_ble_eq_true rfl) (by omega) (by omega) (by omega) (fun v h1 n1 hq => ?_) (fun E h1 n1 hq => absurd hq.1 (by intro q; cases q))
    obtain ⟨hv9, rfl, hb, rfl, hM, hf9⟩ := hq
    obtain rfl := Sum.inl.inj hv9
    have hfr := fun q (hq : q ≠ a + 6) => (hf9 q hq).trans (hfr q hq)
    refine zs_aload_n (pc := 99) dM_formatEntry_99 rfl ?_
    refine zs_bipush (pc := 100) dM_formatEntry_100 (zi_b 32 (by decide)) ?_
    refine zcVQ_1 (pc := 102) (d2 := d - 1) (s_M_sign hl hM (by simp only [List.length_append, ydl_len, List.length_cons, List.length_nil]; omega)) dM_formatEntry_102 kM_183 mdM_sign miM_sign mvM_sign rfl (by exact z2_a) rfl (Nat.le_of_ble_eq_true rfl) (by omega) (by omega) (by omega) (fun v h1 n1 hq => ?_) (fun E h1 n1 hq => absurd hq.1 (by intro q; cases q))
    obtain ⟨hv9, rfl, hb, rfl, hM, hf9⟩ := hq
    obtain rfl := Sum.inl.inj hv9
    have hfr := fun q (hq : q ≠ a + 6) => (hf9 q hq).trans (hfr q hq)
    refine zs_aload_n (pc := 105) dM_formatEntry_105 rfl ?_
    refine zs_bipush (pc := 106) dM_formatEntry_106 (zi_b 115 (by decide)) ?_
    refine zs_aload_n (pc := 108) dM_formatEntry_108 rfl ?_
    refine zs_get (pc := 109) dM_formatEntry_109 fM_9 (by first | exact z2_a | exact z2_1 | (rw [z2_n (by omega) (by omega)]; exact hu)) (by rfl) ?_
    refine zs_iload_n (pc := 112) dM_formatEntry_112 rfl ?_
    refine zs_iconst (pc := 113) dM_formatEntry_113 zi_4 ?_
    refine zn_iadd (pc := 114) dM_formatEntry_114 ?_
    refine zn_iald (pc := 115) dM_formatEntry_115 (by first | exact z2_a | exact z2_1 | (rw [z2_n (by omega) (by omega)]; exact hu)) (by omega) (by first | decide | assumption) ?_
    rw [a4]
    refine zcVQ_2 (pc := 116) (d2 := d - 1) (s_M_writes hl (by omega) hM (by omega) (by simp only [List.length_append, ydl_len, List.length_cons, List.length_nil]; omega)) dM_formatEntry_116 kM_192 mdM_writes miM_writes mvM_writes rfl (by exact z2_a) rfl (Nat.le_of_ble_eq_true rfl) (by omega) (by omega) (by omega) (fun v h1 n1 hq => ?_) (fun E h1 n1 hq => absurd hq.1 (by intro q; cases q))
    obtain ⟨hv9, rfl, hb, rfl, hM, hf9⟩ := hq
    obtain rfl := Sum.inl.inj hv9
    have hfr := fun q (hq : q ≠ a + 6) => (hf9 q hq).trans (hfr q hq)
    refine zs_iconst (pc := 119) dM_formatEntry_119 zi_0 ?_
    refine zs_istore (pc := 120) (ls2 := [_, _, _, _, _]) dM_formatEntry_120 (Nat.le_of_ble_eq_true rfl) rfl ?_
    refine lp_M_formatEntry (k := k) (h := h) hl hd (by omega) hbe (fun hb g1 g2 => ?_) (eg g k 5) 0 rfl hb hM hfr
    refine zs_aload_n (pc := 201) dM_formatEntry_201 rfl ?_
    refine zs_get (pc := 202) dM_formatEntry_202 fM_180 (by first | exact z2_a | exact z2_1 | (rw [z2_n (by omega) (by omega)]; exact hu)) (by rfl) ?_
    exact zs_iret (pc := 205) dM_formatEntry_205 rfl rfl (by omega) (by omega) (⟨rfl, rfl, hb, rfl, g1, g2⟩)
theorem lp_M_formatResults {Γ : zG} {l : Launch} (hl : l.stackTraces = false) {d : Nat} (hd : 5 ≤ d) {h : zH} {n a : Nat} {g : Nat → Nat} {s3 s5 s6 s7 s10 s16 s17 s18 s19 s20 : Int32} {B dn v : Nat} {FN : List Frame → Array Value → State → State → Prop} (hI : IG B g) (hB : B < 2 ^ 20) (h1 : dn ≤ 3) (hv : v < 2 ^ 31) (K : ∀ (hb : zH) (x5 : Option Value), ML hb a (zfl g dn v (zres g dn v)) → (∀ q, q ≠ a + 6 → hb q = h q) → Z Γ l mM_formatResults d 0 0 FN 100 [some (.ref a), some (.int (nI dn)), some (.int (nI v)), some (.int (nI (zres g dn v))), some (.int (nI (zres g dn v))), x5] [] (z2 (hb) a (zAr 0 246 (g)) (zMo a s3 s5 s6 s7 (nI 0) s10 (nI (zfl g dn v (zres g dn v)).length) s16 s17 s18 s19 s20)) n 0 0) : ∀ i r, i + r = zres g dn v → ∀ (hb : zH) (x5 : Option Value), ML hb a (zfl g dn v r) → (∀ q, q ≠ a + 6 → hb q = h q) → Z Γ l mM_formatResults d 0 0 FN 35 [some (.ref a), some (.int (nI dn)), some (.int (nI v)), some (.int (nI (zres g dn v))), some (.int (nI r)), x5] [] (z2 (hb) a (zAr 0 246 (g)) (zMo a s3 s5 s6 s7 (nI 0) s10 (nI (zfl g dn v r).length) s16 s17 s18 s19 s20)) n 0 0 := by
  have i0 := hI.1
  have hres := zres_le (g := g) (dn := dn) (v := v)
  intro i
  induction i with
  | zero =>
    intro r hr hb x5 hM hfr
    obtain rfl : r = zres g dn v := by omega
    refine zs_iload (pc := 35) dM_formatResults_35 rfl ?_
    refine zs_iload_n (pc := 37) dM_formatResults_37 rfl ?_
    refine zn_icmp_ge (pc := 38) 100 dM_formatResults_38 rfl (by omega) (by omega) (fun _ => ?_) (fun h9 => absurd h9 (by omega))
    exact K hb _ hM hfr
  | succ i ih =>
    intro r hr hb x5 hM hfr
    have hz := ih (r + 1) (by omega)
    obtain ⟨t1, t2, t3⟩ := zrkAt_y (g := g) (dn := dn) (v := v) (j := r) (by omega)
    have hlen := zfl_len (dn := dn) (v := v) hI hB r (fun j hj => (zrkAt_y (by omega)).1)
    obtain ⟨g1, g2, g3⟩ := hI.sg hB t1 dn v
    have hid := (hI.b hB t1).1
    have h5 := hI.s6 _ t1
    have hc := hI.c t1
    have hzr : zfl g dn v (r + 1) = zfl g dn v r ++ (if r = 0 then [] else [44]) ++ znum false (eg g (zrkAt g dn v r) 0) ++ [61] ++ znum (ysb (eg g (zrkAt g dn v r)) dn v) (ysm (eg g (zrkAt g dn v r)) dn v) := rfl
    have hnl := znum_len (b := false) (m := eg g (zrkAt g dn v r) 0) (by omega)
    have main : ∀ (hb : zH) (M : List Nat), ML hb a M → (∀ q, q ≠ a + 6 → hb q = h q) → M = zfl g dn v r ++ (if r = 0 then [] else [44]) → M.length ≤ 18 * r + 1 → Z Γ l mM_formatResults d 0 0 FN 62 [some (.ref a), some (.int (nI dn)), some (.int (nI v)), some (.int (nI (zres g dn v))), some (.int (nI r)), some (.int (nI (zrkAt g dn v r)))] [] (z2 (hb) a (zAr 0 246 (g)) (zMo a s3 s5 s6 s7 (nI 0) s10 (nI M.length) s16 s17 s18 s19 s20)) n 0 0 := by
      intro hb M hM hfr hMe hMl
      have e0 : g (6 + 12 * zrkAt g dn v r) = eg g (zrkAt g dn v r) 0 := rfl
      refine zs_aload_n (pc := 62) dM_formatResults_62 rfl ?_
      refine zs_aload_n (pc := 63) dM_formatResults_63 rfl ?_
      refine zs_get (pc := 64) dM_formatResults_64 fM_9 (by first | exact z2_a | exact z2_1 | (rw [z2_n (by omega) (by omega)]; exact hu)) (by rfl) ?_
      refine zs_iload (pc := 67) dM_formatResults_67 rfl ?_
      refine zcS1_1 (pc := 69) (d2 := d - 1) (s_M_entryAt hl) dM_formatResults_69 kM_51 mdM_entryAt msM_entryAt rfl (Nat.le_of_ble_eq_true rfl) (by omega) (by omega) (by omega) ?_
      refine zn_iald (pc := 72) dM_formatResults_72 (by first | exact z2_a | exact z2_1 | (rw [z2_n (by omega) (by omega)]; exact hu)) (by omega) (by first | decide | assumption) ?_
      rw [e0]
      refine zcVQ_1 (pc := 73) (d2 := d - 1) (s_M_writesNumber (b := false) hl (by omega) hM ⟨by omega, fun q => by cases q⟩ (fun q => by cases q) (by omega)) dM_formatResults_73 kM_189 mdM_writesNumber miM_writesNumber mvM_writesNumber rfl (by exact z2_a) rfl (Nat.le_of_ble_eq_true rfl) (by omega) (by omega) (by omega) (fun v h1 n1 hq => ?_) (fun E h1 n1 hq => absurd hq.1 (by intro q; cases q))
      obtain ⟨hv9, rfl, hb, rfl, hM, hf9⟩ := hq
      obtain rfl := Sum.inl.inj hv9
      have hfr := fun q (hq : q ≠ a + 6) => (hf9 q hq).trans (hfr q hq)
      refine zs_aload_n (pc := 76) dM_formatResults_76 rfl ?_
      refine zs_bipush (pc := 77) dM_formatResults_77 (zi_b 61 (by decide)) ?_
      refine zcVQ_1 (pc := 79) (d2 := d - 1) (s_M_sign hl hM (by rw [List.length_append]; omega)) dM_formatResults_79 kM_183 mdM_sign miM_sign mvM_sign rfl (by exact z2_a) rfl (Nat.le_of_ble_eq_true rfl) (by omega) (by omega) (by omega) (fun v h1 n1 hq => ?_) (fun E h1 n1 hq => absurd hq.1 (by intro q; cases q))
      obtain ⟨hv9, rfl, hb, rfl, hM, hf9⟩ := hq
      obtain rfl := Sum.inl.inj hv9
      have hfr := fun q (hq : q ≠ a + 6) => (hf9 q hq).trans (hfr q hq)
      refine zs_aload_n (pc := 82) dM_formatResults_82 rfl ?_
      refine zs_aload_n (pc := 83) dM_formatResults_83 rfl ?_
      refine zs_iload (pc := 84) dM_formatResults_84 rfl ?_
      refine zs_iload_n (pc := 86) dM_formatResults_86 rfl ?_
      refine zs_iload_n (pc := 87) dM_formatResults_87 rfl ?_
      refine zcV1_3 (pc := 88) (d2 := d - 1) (s_M_score hl (by omega) (by omega) h5 hc h1 hv) dM_formatResults_88 kM_74 mdM_score miM_score mvM_score rfl (by exact z2_a) rfl (Nat.le_of_ble_eq_true rfl) (by omega) (by omega) (by omega) ?_
      rw [g1]
      refine zcVQ_1 (pc := 91) (d2 := d - 1) (s_M_writesNumber hl (by omega) hM g2 g3 (by rw [List.length_append, List.length_append]; show _ + _ + 1 + 8 ≤ 600; omega)) dM_formatResults_91 kM_189 mdM_writesNumber miM_writesNumber mvM_writesNumber rfl (by exact z2_a) rfl (Nat.le_of_ble_eq_true rfl) (by omega) (by omega) (by omega) (fun v h1 n1 hq => ?_) (fun E h1 n1 hq => absurd hq.1 (by intro q; cases q))
      obtain ⟨hv9, rfl, hb, rfl, hM, hf9⟩ := hq
      obtain rfl := Sum.inl.inj hv9
      have hfr := fun q (hq : q ≠ a + 6) => (hf9 q hq).trans (hfr q hq)
      rw [hMe, ← hzr] at hM ⊢
      refine zn_iinc (pc := 94) (ls2 := [_, _, _, _, _, _]) dM_formatResults_94 rfl (Nat.le_of_ble_eq_true rfl) rfl ?_
      refine zs_goto (pc := 97) 35 dM_formatResults_97 rfl ?_
      exact hz hb _ hM hfr
    by_cases e : r = 0
    · refine zs_iload (pc := 35) dM_formatResults_35 rfl ?_
      refine zs_iload_n (pc := 37) dM_formatResults_37 rfl ?_
      refine zn_icmp_ge (pc := 38) 100 dM_formatResults_38 rfl (by omega) (by omega) (fun h9 => absurd h9 (by omega)) (fun _ => ?_)
      refine zs_aload_n (pc := 41) dM_formatResults_41 rfl ?_
      refine zs_iload_n (pc := 42) dM_formatResults_42 rfl ?_
      refine zs_iload_n (pc := 43) dM_formatResults_43 rfl ?_
      refine zs_iload (pc := 44) dM_formatResults_44 rfl ?_
      refine zcV1_3 (pc := 46) (d2 := d - 1) (s_M_result_y hl (by omega) hI hB h1 hv (by omega)) dM_formatResults_46 kM_163 mdM_result miM_result mvM_result rfl (by exact z2_a) rfl (Nat.le_of_ble_eq_true rfl) (by omega) (by omega) (by omega) ?_
      refine zs_istore (pc := 49) (ls2 := [_, _, _, _, _, _]) dM_formatResults_49 (Nat.le_of_ble_eq_true rfl) rfl ?_
      refine zs_iload (pc := 51) dM_formatResults_51 rfl ?_
      refine zn_if_le (pc := 53) 62 dM_formatResults_53 rfl (by omega) (fun _ => ?_) (fun h9 => absurd h9 (by omega))
      exact main _ _ hM hfr (by rw [if_pos e, List.append_nil]) (by omega)
    · refine zs_iload (pc := 35) dM_formatResults_35 rfl ?_
      refine zs_iload_n (pc := 37) dM_formatResults_37 rfl ?_
      refine zn_icmp_ge (pc := 38) 100 dM_formatResults_38 rfl (by omega) (by omega) (fun h9 => absurd h9 (by omega)) (fun _ => ?_)
      refine zs_aload_n (pc := 41) dM_formatResults_41 rfl ?_
      refine zs_iload_n (pc := 42) dM_formatResults_42 rfl ?_
      refine zs_iload_n (pc := 43) dM_formatResults_43 rfl ?_
      refine zs_iload (pc := 44) dM_formatResults_44 rfl ?_
      refine zcV1_3 (pc := 46) (d2 := d - 1) (s_M_result_y hl (by omega) hI hB h1 hv (by omega)) dM_formatResults_46 kM_163 mdM_result miM_result mvM_result rfl (by exact z2_a) rfl (Nat.le_of_ble_eq_true rfl) (by omega) (by omega) (by omega) ?_
      refine zs_istore (pc := 49) (ls2 := [_, _, _, _, _, _]) dM_formatResults_49 (Nat.le_of_ble_eq_true rfl) rfl ?_
      refine zs_iload (pc := 51) dM_formatResults_51 rfl ?_
      refine zn_if_le (pc := 53) 62 dM_formatResults_53 rfl (by omega) (fun h9 => absurd h9 (by omega)) (fun _ => ?_)
      refine zs_aload_n (pc := 56) dM_formatResults_56 rfl ?_
      refine zs_bipush (pc := 57) dM_formatResults_57 (zi_b 44 (by decide)) ?_
      refine zcVQ_1 (pc := 59) (d2 := d - 1) (s_M_sign hl hM (by omega)) dM_formatResults_59 kM_183 mdM_sign miM_sign mvM_sign rfl (by exact z2_a) rfl (Nat.le_of_ble_eq_true rfl) (by omega) (by omega) (by omega) (fun v h1 n1 hq => ?_) (fun E h1 n1 hq => absurd hq.1 (by intro q; cases q))
      obtain ⟨hv9, rfl, hb, rfl, hM, hf9⟩ := hq
      obtain rfl := Sum.inl.inj hv9
      have hfr := fun q (hq : q ≠ a + 6) => (hf9 q hq).trans (hfr q hq)
      exact main _ _ hM hfr (by rw [if_neg e]) (by rw [List.length_append]; show _ + 1 ≤ _; omega)
theorem s_M_formatResults {Γ : zG} {l : Launch} (hl : l.stackTraces = false) {d : Nat} (hd : 5 ≤ d) {h : zH} {n a : Nat} {g : Nat → Nat} {s3 s5 s6 s7 s8 s10 s12 s16 s17 s18 s19 s20 : Int32} {B : Nat} {L : List Nat} (hM : ML h a L) (hI : IG B g) (hB : B < 2 ^ 20) (y z : Int32) : zC Γ l d mM_formatResults [.ref a, .int y, .int z] (z2 h a (zAr 0 246 (g)) (zMo a s3 s5 s6 s7 s8 s10 (nI L.length) s16 s17 s18 s19 s20)) n 0 0 (fun o h1 n1 => o = .inl (some (.int (aFmtR g y z).2)) ∧ n1 = n ∧ ∃ hb, h1 = (z2 (hb) a (zAr 0 246 (g)) (zMo a s3 s5 s6 s7 (nI (aFmtR g y z).1) s10 (nI (zLr g y z L).length) s16 s17 s18 s19 s20)) ∧ ML hb a (zLr g y z L) ∧ ∀ q, q ≠ a + 6 → hb q = h q) := by
  have i0 := hI.1
  unfold aFmtR zLr
  have hfr : ∀ q, q ≠ a + 6 → h q = h q := fun q _ => rfl
  refine zC_of (ls := [some (.ref a), some (.int y), some (.int z), none, none, none]) hl (by decide +kernel) rfl (Nat.le_of_ble_eq_true rfl) rfl ?_
  cases hv : zPv y z with
  | false =>
    rw [if_neg (by decide), if_neg (by decide)]
    have hv2 := zPv_n hv
    refine zs_aload_n (pc := 0) dM_formatResults_0 rfl ?_
    refine zs_iconst (pc := 1) dM_formatResults_1 zi_0 ?_
    refine zs_put (pc := 2) (fs2 := [_, _, _, _, _, _, _, _, _, _, _, _, _, _, _, _, _, _, _, _, _]) dM_formatResults_2 fM_45 (by first | exact z2_a | exact z2_1 | (rw [z2_n (by omega) (by omega)]; exact hu)) (by rfl) (by rfl) (by exact Nat.le_of_ble_eq_true rfl) (by rfl) ?_
    rw [z2_O]
    refine zs_iload_n (pc := 5) dM_formatResults_5 rfl ?_
    refine zs_iload_n (pc := 6) dM_formatResults_6 rfl ?_
    refine zs_iconst (pc := 7) dM_formatResults_7 zi_3 ?_
    refine zcS1_3 (pc := 8) (d2 := d - 1) (s_M_isPrefix_n hl (by omega) (fun ⟨a1, a2, a3, _⟩ => hv2 ⟨a1, a2, a3⟩) (by decide)) dM_formatResults_8 kM_143 mdM_isPrefix msM_isPrefix rfl (Nat.le_of_ble_eq_true rfl) (by omega) (by omega) (by omega) ?_
    refine zs_if_ne (pc := 11) 20 dM_formatResults_11 rfl (fun h9 => absurd h9 (by decide)) (fun _ => ?_)
    refine zs_aload_n (pc := 14) dM_formatResults_14 rfl ?_
    refine zs_iconst (pc := 15) dM_formatResults_15 zi_1 ?_
    refine zcV1_1 (pc := 16) (d2 := d - 1) (s_M_throwing hl) dM_formatResults_16 kM_90 mdM_throwing miM_throwing mvM_throwing rfl (by exact z2_a) rfl (Nat.le_of_ble_eq_true rfl) (by omega) (by omega) (by omega) ?_
    exact zs_iret (pc := 19) dM_formatResults_19 rfl rfl (by omega) (by omega) (⟨rfl, rfl, h, rfl, hM, hfr⟩)
  | true =>
    rw [if_pos rfl, if_pos rfl]
    have hv2 := zPv_y hv
    generalize y.toInt.toNat = dn at hv2 ⊢
    generalize z.toInt.toNat = v at hv2 ⊢
    have hv3 := hv2
    obtain ⟨rfl, rfl, q1, q2⟩ := hv3
    have h3 := z10 q1
    obtain ⟨u0, hu0, -⟩ := hM
    have hM : ML h a [] := ⟨u0, hu0, fun i hi => absurd hi (by show ¬ i < 0; omega)⟩
    refine zs_aload_n (pc := 0) dM_formatResults_0 rfl ?_
    refine zs_iconst (pc := 1) dM_formatResults_1 zi_0 ?_
    refine zs_put (pc := 2) (fs2 := [_, _, _, _, _, _, _, _, _, _, _, _, _, _, _, _, _, _, _, _, _]) dM_formatResults_2 fM_45 (by first | exact z2_a | exact z2_1 | (rw [z2_n (by omega) (by omega)]; exact hu)) (by rfl) (by rfl) (by exact Nat.le_of_ble_eq_true rfl) (by rfl) ?_
    rw [z2_O]
    refine zs_iload_n (pc := 5) dM_formatResults_5 rfl ?_
    refine zs_iload_n (pc := 6) dM_formatResults_6 rfl ?_
    refine zs_iconst (pc := 7) dM_formatResults_7 zi_3 ?_
    refine zcS1_3 (pc := 8) (d2 := d - 1) (s_M_isPrefix_y hl (by omega) hv2 q1 (by decide)) dM_formatResults_8 kM_143 mdM_isPrefix msM_isPrefix rfl (Nat.le_of_ble_eq_true rfl) (by omega) (by omega) (by omega) ?_
    refine zs_if_ne (pc := 11) 20 dM_formatResults_11 rfl (fun _ => ?_) (fun h9 => absurd h9 (by decide))
    refine zs_aload_n (pc := 20) dM_formatResults_20 rfl ?_
    refine zs_iconst (pc := 21) dM_formatResults_21 zi_0 ?_
    refine zs_put (pc := 22) (fs2 := [_, _, _, _, _, _, _, _, _, _, _, _, _, _, _, _, _, _, _, _, _]) dM_formatResults_22 fM_180 (by first | exact z2_a | exact z2_1 | (rw [z2_n (by omega) (by omega)]; exact hu)) (by rfl) (by rfl) (by exact Nat.le_of_ble_eq_true rfl) (by rfl) ?_
    rw [z2_O]
    refine zs_aload_n (pc := 25) dM_formatResults_25 rfl ?_
    refine zs_iload_n (pc := 26) dM_formatResults_26 rfl ?_
    refine zs_iload_n (pc := 27) dM_formatResults_27 rfl ?_
    refine zcV1_2 (pc := 28) (d2 := d - 1) (s_M_results hl (by omega) hI q1 (by omega)) dM_formatResults_28 kM_77 mdM_results miM_results mvM_results rfl (by exact z2_a) rfl (Nat.le_of_ble_eq_true rfl) (by omega) (by omega) (by omega) ?_
    refine zs_istore_n (pc := 31) (ls2 := [_, _, _, _, _, _]) dM_formatResults_31 (Nat.le_of_ble_eq_true rfl) rfl ?_
    refine zs_iconst (pc := 32) dM_formatResults_32 zi_0 ?_
    refine zs_istore (pc := 33) (ls2 := [_, _, _, _, _, _]) dM_formatResults_33 (Nat.le_of_ble_eq_true rfl) rfl ?_
    refine lp_M_formatResults (h := h) hl hd hI hB q1 (by omega) (fun hb x5 g1 g2 => ?_) (zres g dn v) 0 rfl h _ hM hfr
    refine zs_aload_n (pc := 100) dM_formatResults_100 rfl ?_
    refine zs_get (pc := 101) dM_formatResults_101 fM_180 (by first | exact z2_a | exact z2_1 | (rw [z2_n (by omega) (by omega)]; exact hu)) (by rfl) ?_
    exact zs_iret (pc := 104) dM_formatResults_104 rfl rfl (by omega) (by omega) (⟨rfl, rfl, hb, rfl, g1, g2⟩)
def mCh (p : Nat × Int32) : Int32 := if p.1 = 0 then p.2 else ((-1 : Int32).toUInt32 % 65536).toInt32
theorem s_M_lineChar {Γ : zG} {l : Launch} (hl : l.stackTraces = false) {d : Nat} (hd : 1 ≤ d) {h : zH} {n a : Nat} {g : Nat → Nat} {s3 s5 s6 s7 s10 s16 s17 s18 s19 s20 : Int32} {L : List Nat} {s8 : Int32} (hM : ML h a L) (hL4 : L.length ≤ 480) (hLc : ∀ c, c ∈ L → c < 128) (y : Int32) : zC Γ l d mM_lineChar [.ref a, .int y] (z2 h a (zAr 0 246 (g)) (zMo a s3 s5 s6 s7 s8 s10 (nI L.length) s16 s17 s18 s19 s20)) n 0 0 (zR (some (.int (mCh (aLine L y)))) (z2 h a (zAr 0 246 (g)) (zMo a s3 s5 s6 s7 (nI (aLine L y).1) s10 (nI L.length) s16 s17 s18 s19 s20)) n) := by
  obtain ⟨u, hu, ht⟩ := hM
  unfold aLine
  refine zC_of (ls := [some (.ref a), some (.int y)]) hl (by decide +kernel) rfl (Nat.le_of_ble_eq_true rfl) rfl ?_
  cases hv : zIx y L.length with
  | true =>
    rw [if_pos rfl]
    have hv9 := hv
    obtain ⟨v1, v2⟩ := zIx_y hv
    generalize y.toInt.toNat = k at v1 v2 ⊢
    subst v2
    have e := ht k v1
    have e2 : L.getD k 0 = u k := by rw [List.getD_eq_getElem?_getD, e]; rfl
    have huk : u k < 128 := hLc _ (List.mem_of_getElem? e)
    rw [e2]
    refine zs_aload_n (pc := 0) dM_lineChar_0 rfl ?_
    refine zs_iconst (pc := 1) dM_lineChar_1 zi_0 ?_
    refine zs_put (pc := 2) (fs2 := [_, _, _, _, _, _, _, _, _, _, _, _, _, _, _, _, _, _, _, _, _]) dM_lineChar_2 fM_45 (by first | exact z2_a | exact z2_1 | (rw [z2_n (by omega) (by omega)]; exact hu)) (by rfl) (by rfl) (by exact Nat.le_of_ble_eq_true rfl) (by rfl) ?_
    rw [z2_O]
    refine zs_iload_n (pc := 5) dM_lineChar_5 rfl ?_
    refine zs_i2l (pc := 6) dM_lineChar_6 ?_
    refine zs_lconst (pc := 7) (v := 0) dM_lineChar_7 (by decide) ?_
    refine zs_aload_n (pc := 8) dM_lineChar_8 rfl ?_
    refine zs_get (pc := 9) dM_lineChar_9 fM_180 (by first | exact z2_a | exact z2_1 | (rw [z2_n (by omega) (by omega)]; exact hu)) (by rfl) ?_
    refine zs_iconst (pc := 12) dM_lineChar_12 zi_1 ?_
    refine zs_isub (pc := 13) dM_lineChar_13 ?_
    refine zs_i2l (pc := 14) dM_lineChar_14 ?_
    refine zcS1_3 (pc := 15) (d2 := d - 1) (s_M_inX_y hl (by decide) (nI_m64 (by omega)) hv9) dM_lineChar_15 kM_55 mdM_in msM_in rfl (Nat.le_of_ble_eq_true rfl) (by omega) (by omega) (by omega) ?_
    refine zs_if_eq (pc := 18) 31 dM_lineChar_18 rfl (fun h9 => absurd h9 (by decide)) (fun _ => ?_)
    refine zs_aload_n (pc := 21) dM_lineChar_21 rfl ?_
    refine zs_get (pc := 22) dM_lineChar_22 fM_32 (by first | exact z2_a | exact z2_1 | (rw [z2_n (by omega) (by omega)]; exact hu)) (by rfl) ?_
    refine zs_iload_n (pc := 25) dM_lineChar_25 rfl ?_
    refine zn_iald (pc := 26) dM_lineChar_26 (by first | exact z2_a | exact z2_1 | (rw [z2_n (by omega) (by omega)]; exact hu)) (by omega) (by first | decide | assumption) ?_
    refine zs_i2c (pc := 27) dM_lineChar_27 ?_
    rw [zch (by omega)]
    refine zs_goto (pc := 28) 37 dM_lineChar_28 rfl ?_
    exact zs_iret (pc := 37) dM_lineChar_37 rfl (pk_charN (by omega)).1 (by omega) (by omega) (⟨rfl, rfl, rfl⟩)
  | false =>
    rw [if_neg (by decide)]
    refine zs_aload_n (pc := 0) dM_lineChar_0 rfl ?_
    refine zs_iconst (pc := 1) dM_lineChar_1 zi_0 ?_
    refine zs_put (pc := 2) (fs2 := [_, _, _, _, _, _, _, _, _, _, _, _, _, _, _, _, _, _, _, _, _]) dM_lineChar_2 fM_45 (by first | exact z2_a | exact z2_1 | (rw [z2_n (by omega) (by omega)]; exact hu)) (by rfl) (by rfl) (by exact Nat.le_of_ble_eq_true rfl) (by rfl) ?_
    rw [z2_O]
    refine zs_iload_n (pc := 5) dM_lineChar_5 rfl ?_
    refine zs_i2l (pc := 6) dM_lineChar_6 ?_
    refine zs_lconst (pc := 7) (v := 0) dM_lineChar_7 (by decide) ?_
    refine zs_aload_n (pc := 8) dM_lineChar_8 rfl ?_
    refine zs_get (pc := 9) dM_lineChar_9 fM_180 (by first | exact z2_a | exact z2_1 | (rw [z2_n (by omega) (by omega)]; exact hu)) (by rfl) ?_
    refine zs_iconst (pc := 12) dM_lineChar_12 zi_1 ?_
    refine zs_isub (pc := 13) dM_lineChar_13 ?_
    refine zs_i2l (pc := 14) dM_lineChar_14 ?_
    refine zcS1_3 (pc := 15) (d2 := d - 1) (s_M_inX_n hl (by decide) (nI_m64 (by omega)) hv) dM_lineChar_15 kM_55 mdM_in msM_in rfl (Nat.le_of_ble_eq_true rfl) (by omega) (by omega) (by omega) ?_
    refine zs_if_eq (pc := 18) 31 dM_lineChar_18 rfl (fun _ => ?_) (fun h9 => absurd h9 (by decide))
    refine zs_aload_n (pc := 31) dM_lineChar_31 rfl ?_
    refine zs_iconst (pc := 32) dM_lineChar_32 zi_1 ?_
    refine zcV1_1 (pc := 33) (d2 := d - 1) (s_M_throwing hl) dM_lineChar_33 kM_90 mdM_throwing miM_throwing mvM_throwing rfl (by exact z2_a) rfl (Nat.le_of_ble_eq_true rfl) (by omega) (by omega) (by omega) ?_
    refine zs_i2c (pc := 36) dM_lineChar_36 ?_
    exact zs_iret (pc := 37) dM_lineChar_37 rfl rfl (by omega) (by omega) (⟨rfl, rfl, rfl⟩)
theorem s_M_append {Γ : zG} {l : Launch} (hl : l.stackTraces = false) {d : Nat} (hd : 1 ≤ d) {h : zH} {n a : Nat} {g : Nat → Nat} {s3 s5 s6 s7 s12 s16 s17 s18 s19 s20 : Int32} {s8 : Int32} {T : Nat → Nat} {np v : Nat} (hu : h (a + 5) = some (zAr 0 60 T)) (hnp : np ≤ 60) (hv : v < 65536) : zC Γ l d mM_append [.ref a, .int (nI v)] (z2 h a (zAr 0 246 (g)) (zMo a s3 s5 s6 s7 s8 (nI np) s12 s16 s17 s18 s19 s20)) n 0 0 (zR (some (.int (aApp np v).2)) (z2 (if (aApp np v).1 = 0 then zu h (a + 5) (zAr 0 60 (zup T np v)) else h) a (zAr 0 246 (g)) (zMo a s3 s5 s6 s7 (nI (aApp np v).1) (nI (if (aApp np v).1 = 0 then np + 1 else np)) s12 s16 s17 s18 s19 s20)) n) := by
  have ev : zV (nI v) 32 126 = decide (32 ≤ v ∧ v ≤ 126) := by
    unfold zV
    rw [nI_toInt (by omega)]
    exact decide_eq_decide.mpr (by omega)
  unfold aApp
  refine zC_of (ls := [some (.ref a), some (.int (nI v))]) hl (by decide +kernel) rfl (Nat.le_of_ble_eq_true rfl) rfl ?_
  by_cases e : 32 ≤ v ∧ v ≤ 126
  · rw [decide_eq_true e] at ev
    rw [if_pos e]
    by_cases e3 : np = 60
    · rw [if_pos e3, if_neg (by decide), if_neg (by decide)]
      refine zs_aload_n (pc := 0) dM_append_0 rfl ?_
      refine zs_iconst (pc := 1) dM_append_1 zi_0 ?_
      refine zs_put (pc := 2) (fs2 := [_, _, _, _, _, _, _, _, _, _, _, _, _, _, _, _, _, _, _, _, _]) dM_append_2 fM_45 (by first | exact z2_a | exact z2_1 | (rw [z2_n (by omega) (by omega)]; exact hu)) (by rfl) (by rfl) (by exact Nat.le_of_ble_eq_true rfl) (by rfl) ?_
      rw [z2_O]
      refine zs_iload_n (pc := 5) dM_append_5 rfl ?_
      refine zs_i2l (pc := 6) dM_append_6 ?_
      refine zs_ldc2 (pc := 7) (v := 32) dM_append_7 (zt7 (i := 215) rfl) ?_
      refine zs_ldc2 (pc := 10) (v := 126) dM_append_10 (zt7 (i := 216) rfl) ?_
      refine zcS1_3 (pc := 13) (d2 := d - 1) (s_M_inV_y hl (lo := 32) (hi := 126) (by decide) (by decide) ev) dM_append_13 kM_55 mdM_in msM_in rfl (Nat.le_of_ble_eq_true rfl) (by omega) (by omega) (by omega) ?_
      refine zs_if_ne (pc := 16) 25 dM_append_16 rfl (fun _ => ?_) (fun h9 => absurd h9 (by decide))
      refine zs_aload_n (pc := 25) dM_append_25 rfl ?_
      refine zs_get (pc := 26) dM_append_26 fM_199 (by first | exact z2_a | exact z2_1 | (rw [z2_n (by omega) (by omega)]; exact hu)) (by rfl) ?_
      refine zs_bipush (pc := 29) dM_append_29 (zi_b 60 (by decide)) ?_
      refine zn_icmp_ne (pc := 31) 40 dM_append_31 rfl (by omega) (by omega) (fun h9 => absurd h9 (by omega)) (fun _ => ?_)
      refine zs_aload_n (pc := 34) dM_append_34 rfl ?_
      refine zs_iconst (pc := 35) dM_append_35 zi_2 ?_
      refine zcV1_1 (pc := 36) (d2 := d - 1) (s_M_throwing hl) dM_append_36 kM_90 mdM_throwing miM_throwing mvM_throwing rfl (by exact z2_a) rfl (Nat.le_of_ble_eq_true rfl) (by omega) (by omega) (by omega) ?_
      exact zs_iret (pc := 39) dM_append_39 rfl rfl (by omega) (by omega) (⟨rfl, rfl, rfl⟩)
    · rw [if_neg e3, if_pos rfl, if_pos rfl]
      refine zs_aload_n (pc := 0) dM_append_0 rfl ?_
      refine zs_iconst (pc := 1) dM_append_1 zi_0 ?_
      refine zs_put (pc := 2) (fs2 := [_, _, _, _, _, _, _, _, _, _, _, _, _, _, _, _, _, _, _, _, _]) dM_append_2 fM_45 (by first | exact z2_a | exact z2_1 | (rw [z2_n (by omega) (by omega)]; exact hu)) (by rfl) (by rfl) (by exact Nat.le_of_ble_eq_true rfl) (by rfl) ?_
      rw [z2_O]
      refine zs_iload_n (pc := 5) dM_append_5 rfl ?_
      refine zs_i2l (pc := 6) dM_append_6 ?_
      refine zs_ldc2 (pc := 7) (v := 32) dM_append_7 (zt7 (i := 215) rfl) ?_
      refine zs_ldc2 (pc := 10) (v := 126) dM_append_10 (zt7 (i := 216) rfl) ?_
      refine zcS1_3 (pc := 13) (d2 := d - 1) (s_M_inV_y hl (lo := 32) (hi := 126) (by decide) (by decide) ev) dM_append_13 kM_55 mdM_in msM_in rfl (Nat.le_of_ble_eq_true rfl) (by omega) (by omega) (by omega) ?_
      refine zs_if_ne (pc := 16) 25 dM_append_16 rfl (fun _ => ?_) (fun h9 => absurd h9 (by decide))
      refine zs_aload_n (pc := 25) dM_append_25 rfl ?_
      refine zs_get (pc := 26) dM_append_26 fM_199 (by first | exact z2_a | exact z2_1 | (rw [z2_n (by omega) (by omega)]; exact hu)) (by rfl) ?_
      refine zs_bipush (pc := 29) dM_append_29 (zi_b 60 (by decide)) ?_
      refine zn_icmp_ne (pc := 31) 40 dM_append_31 rfl (by omega) (by omega) (fun _ => ?_) (fun h9 => absurd h9 (by omega))
      refine zs_aload_n (pc := 40) dM_append_40 rfl ?_
      refine zs_get (pc := 41) dM_append_41 fM_29 (by first | exact z2_a | exact z2_1 | (rw [z2_n (by omega) (by omega)]; exact hu)) (by rfl) ?_
      refine zs_aload_n (pc := 44) dM_append_44 rfl ?_
      refine zs_get (pc := 45) dM_append_45 fM_199 (by first | exact z2_a | exact z2_1 | (rw [z2_n (by omega) (by omega)]; exact hu)) (by rfl) ?_
      refine zs_iload_n (pc := 48) dM_append_48 rfl ?_
      refine zn_iast (pc := 49) dM_append_49 (by first | exact z2_a | exact z2_1 | (rw [z2_n (by omega) (by omega)]; exact hu)) (by omega) (by first | decide | assumption) ?_
      first | rw [z2_G] | rw [z2_q2] | rw [z2_q3] | rw [z2_q4] | rw [z2_q5] | rw [z2_q6] | rw [z2_q9]
      refine zs_aload_n (pc := 50) dM_append_50 rfl ?_
      refine zs_dup (pc := 51) dM_append_51 rfl ?_
      refine zs_get (pc := 52) dM_append_52 fM_199 (by first | exact z2_a | exact z2_1 | (rw [z2_n (by omega) (by omega)]; exact hu)) (by rfl) ?_
      refine zs_iconst (pc := 55) dM_append_55 zi_1 ?_
      refine zn_iadd (pc := 56) dM_append_56 ?_
      refine zs_put (pc := 57) (fs2 := [_, _, _, _, _, _, _, _, _, _, _, _, _, _, _, _, _, _, _, _, _]) dM_append_57 fM_199 (by first | exact z2_a | exact z2_1 | (rw [z2_n (by omega) (by omega)]; exact hu)) (by rfl) (by rfl) (by exact Nat.le_of_ble_eq_true rfl) (by rfl) ?_
      rw [z2_O]
      refine zs_aload_n (pc := 60) dM_append_60 rfl ?_
      refine zs_get (pc := 61) dM_append_61 fM_199 (by first | exact z2_a | exact z2_1 | (rw [z2_n (by omega) (by omega)]; exact hu)) (by rfl) ?_
      exact zs_iret (pc := 64) dM_append_64 rfl rfl (by omega) (by omega) (⟨rfl, rfl, rfl⟩)
  · rw [decide_eq_false e] at ev
    rw [if_neg e, if_neg (by decide), if_neg (by decide)]
    refine zs_aload_n (pc := 0) dM_append_0 rfl ?_
    refine zs_iconst (pc := 1) dM_append_1 zi_0 ?_
    refine zs_put (pc := 2) (fs2 := [_, _, _, _, _, _, _, _, _, _, _, _, _, _, _, _, _, _, _, _, _]) dM_append_2 fM_45 (by first | exact z2_a | exact z2_1 | (rw [z2_n (by omega) (by omega)]; exact hu)) (by rfl) (by rfl) (by exact Nat.le_of_ble_eq_true rfl) (by rfl) ?_
    rw [z2_O]
    refine zs_iload_n (pc := 5) dM_append_5 rfl ?_
    refine zs_i2l (pc := 6) dM_append_6 ?_
    refine zs_ldc2 (pc := 7) (v := 32) dM_append_7 (zt7 (i := 215) rfl) ?_
    refine zs_ldc2 (pc := 10) (v := 126) dM_append_10 (zt7 (i := 216) rfl) ?_
    refine zcS1_3 (pc := 13) (d2 := d - 1) (s_M_inV_n hl (lo := 32) (hi := 126) (by decide) (by decide) ev) dM_append_13 kM_55 mdM_in msM_in rfl (Nat.le_of_ble_eq_true rfl) (by omega) (by omega) (by omega) ?_
    refine zs_if_ne (pc := 16) 25 dM_append_16 rfl (fun h9 => absurd h9 (by decide)) (fun _ => ?_)
    refine zs_aload_n (pc := 19) dM_append_19 rfl ?_
    refine zs_iconst (pc := 20) dM_append_20 zi_1 ?_
    refine zcV1_1 (pc := 21) (d2 := d - 1) (s_M_throwing hl) dM_append_21 kM_90 mdM_throwing miM_throwing mvM_throwing rfl (by exact z2_a) rfl (Nat.le_of_ble_eq_true rfl) (by omega) (by omega) (by omega) ?_
    exact zs_iret (pc := 24) dM_append_24 rfl rfl (by omega) (by omega) (⟨rfl, rfl, rfl⟩)

