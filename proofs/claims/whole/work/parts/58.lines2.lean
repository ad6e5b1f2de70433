/-! an entry's line -/
def zfe0 (q : Nat → Nat) : List Nat := [] ++ [101] ++ ydl (q 0) (zD (q 0)) ++ [32] ++ [119] ++ ydl (q 1) (zD (q 1)) ++ [32] ++ [97] ++ ydl (q 2) (zD (q 2)) ++ [32] ++ [104] ++ ydl (q 3) (zD (q 3)) ++ [32] ++ [115] ++ ydl (q 4) (zD (q 4))
def zfe (q : Nat → Nat) : Nat → List Nat
  | 0 => zfe0 q
  | j + 1 => zfe q j ++ [32] ++ zcd (q (6 + j))
theorem zfe0_len {q : Nat → Nat} (hb : zEb q) : (zfe0 q).length ≤ 44 := by
  obtain ⟨b0, b1, b2, b3, b4, b5, b6⟩ := hb
  have h0 := zD_le (m := q 0) (by omega)
  have h1 := zD_le (m := q 1) (by omega)
  have h2 := zD_le (m := q 2) (by omega)
  have h3 := zD_le (m := q 3) (by omega)
  have h4 := zD_le (m := q 4) (by omega)
  unfold zfe0
  simp only [List.length_append, ydl_len, List.length_cons, List.length_nil]
  omega
theorem zfe_len {q : Nat → Nat} (hb : zEb q) : ∀ j, (zfe q j).length ≤ 44 + 4 * j := by
  intro j
  induction j with
  | zero => exact zfe0_len hb
  | succ j ih =>
    unfold zfe
    rw [List.length_append, List.length_append]
    show _ + 1 + 3 ≤ _
    omega
def aFmtE (g : Nat → Nat) (y : Int32) : Nat × Int32 := if zHas g y = true then (0, nI (zfe (eg g (zAt g y)) (eg g (zAt g y) 5)).length) else (1, -1)
def zLe (g : Nat → Nat) (y : Int32) (L : List Nat) : List Nat := if zHas g y = true then zfe (eg g (zAt g y)) (eg g (zAt g y) 5) else L
theorem lp_X_formatEntry {Γ : zG} {l : Launch} (hl : l.stackTraces = false) {d : Nat} (hd : 5 ≤ d) {h : zH} {n : Nat} {x st k : Nat} {sv : Bool} {er fl : Option Nat} {g : Nat → Nat} {p : Nat → Nat} {Q : Nat → Nat → Nat} {y : Int32} {mc ms : Nat} {FN : List Frame → Array Value → State → State → Prop} (hx : h x = some (zXo x st sv er fl)) (hC : CH h (x + 1) p Q (zFg g)) (hpk : p k < 20) (hA1 : zAg (Q (p k)) (eg g k)) (hb : zEb (eg g k)) (K : ∀ h9, LH h9 (x + 476) (zfe (eg g k) (eg g k 5)) → zfr (x + 476) 3 h h9 → Z Γ l mX_formatEntry d mc ms FN 152 [some (.ref x), some (.int y), some (.ref (x + 1 + 2 + 2 * p k)), some (.int (nI (eg g k 5)))] [] h9 n 0 0) : ∀ i j, i + j = eg g k 5 → ∀ h9, LH h9 (x + 476) (zfe (eg g k) j) → zfr (x + 476) 3 h h9 → Z Γ l mX_formatEntry d mc ms FN 116 [some (.ref x), some (.int y), some (.ref (x + 1 + 2 + 2 * p k)), some (.int (nI j))] [] h9 n 0 0 := by
  have h5 := hA1.e5
  have hlen := zfe_len hb
  obtain ⟨b0, b1, b2, b3, b4, b5, b6⟩ := hb
  intro i
  induction i with
  | zero =>
    intro j hj h9 hT hfr
    have hx9 := (hfr x (by omega)).trans hx
    have he9 := (hC.sm (h1 := h9) (fun q q1 q2 => hfr q (by omega))).2.2 (p k) hpk
    obtain rfl : j = eg g k 5 := by omega
    refine zs_iload_n (pc := 116) dX_formatEntry_116 rfl ?_
    refine zs_aload_n (pc := 117) dX_formatEntry_117 rfl ?_
    refine zs_get (pc := 118) dX_formatEntry_118 fX_147 (by first | exact hx9 | exact he9.1 | exact he9.2) (by rfl) ?_
    refine zn_icmp_ge (pc := 121) 152 dX_formatEntry_121 rfl (by omega) (by omega) (fun _ => ?_) (fun h9 => absurd h9 (by omega))
    exact K h9 hT hfr
  | succ i ih =>
    intro j hj h9 hT hfr
    have hx9 := (hfr x (by omega)).trans hx
    have he9 := (hC.sm (h1 := h9) (fun q q1 q2 => hfr q (by omega))).2.2 (p k) hpk
    have hl1 := hlen j
    have hc := b6 j (by omega)
    have hq := hA1 (6 + j) (by omega)
    refine zs_iload_n (pc := 116) dX_formatEntry_116 rfl ?_
    refine zs_aload_n (pc := 117) dX_formatEntry_117 rfl ?_
    refine zs_get (pc := 118) dX_formatEntry_118 fX_147 (by first | exact hx9 | exact he9.1 | exact he9.2) (by rfl) ?_
    refine zn_icmp_ge (pc := 121) 152 dX_formatEntry_121 rfl (by omega) (by omega) (fun h9 => absurd h9 (by omega)) (fun _ => ?_)
    refine zs_aload_n (pc := 124) dX_formatEntry_124 rfl ?_
    refine zs_get (pc := 125) dX_formatEntry_125 fX_50 (by first | exact hx9 | exact he9.1 | exact he9.2) (by rfl) ?_
    refine zs_bipush (pc := 128) dX_formatEntry_128 (zi_b 32 (by decide)) ?_
    refine zcVQ_1 (pc := 130) (d2 := d - 1) (s_L_put hl hT (by omega) (by decide)) dX_formatEntry_130 kX_311 mdL_put miL_put mvL_put rfl (by exact hT.o) rfl (Nat.le_of_ble_eq_true rfl) (by omega) (by omega) (by omega) (fun v h1 n1 hq => ?_) (fun E h1 n1 hq => absurd hq.1 (by intro q; cases q))
    obtain ⟨hv9, rfl, hf9, hT⟩ := hq
    obtain rfl := Sum.inl.inj hv9
    have hfr := hfr.tr (hf9.sub (r2 := x + 476) (m2 := 3) (by omega) (by omega))
    have hx9 := (hfr x (by omega)).trans hx
    have he9 := (hC.sm (h1 := h1) (fun q q1 q2 => hfr q (by omega))).2.2 (p k) hpk
    refine zs_aload_n (pc := 133) dX_formatEntry_133 rfl ?_
    refine zs_get (pc := 134) dX_formatEntry_134 fX_50 (by first | exact hx9 | exact he9.1 | exact he9.2) (by rfl) ?_
    refine zs_aload_n (pc := 137) dX_formatEntry_137 rfl ?_
    refine zs_get (pc := 138) dX_formatEntry_138 fX_150 (by first | exact hx9 | exact he9.1 | exact he9.2) (by rfl) ?_
    refine zs_iload_n (pc := 141) dX_formatEntry_141 rfl ?_
    refine zn_iald (pc := 142) dX_formatEntry_142 (by first | exact hx9 | exact he9.1 | exact he9.2) (by omega) (by first | decide | assumption) ?_
    rw [hq]
    refine zcVQ_1 (pc := 143) (d2 := d - 1) (s_L_putCode hl (by omega) hT hc (by rw [List.length_append]; show _ + 1 + 3 ≤ 480; omega)) dX_formatEntry_143 kX_315 mdL_putCode miL_putCode mvL_putCode rfl (by exact hT.o) rfl (Nat.le_of_ble_eq_true rfl) (by omega) (by omega) (by omega) (fun v h1 n1 hq => ?_) (fun E h1 n1 hq => absurd hq.1 (by intro q; cases q))
    obtain ⟨hv9, rfl, hf9, hT⟩ := hq
    obtain rfl := Sum.inl.inj hv9
    have hfr := hfr.tr (hf9.sub (r2 := x + 476) (m2 := 3) (by omega) (by omega))
    have hx9 := (hfr x (by omega)).trans hx
    have he9 := (hC.sm (h1 := h1) (fun q q1 q2 => hfr q (by omega))).2.2 (p k) hpk
    refine zn_iinc (pc := 146) (ls2 := [_, _, _, _]) dX_formatEntry_146 rfl (Nat.le_of_ble_eq_true rfl) rfl ?_
    refine zs_goto (pc := 149) 116 dX_formatEntry_149 rfl ?_
    exact ih (j + 1) (by omega) _ hT hfr
theorem s_X_formatEntry {Γ : zG} {l : Launch} (hl : l.stackTraces = false) {d : Nat} (hd : 5 ≤ d) {h : zH} {n : Nat} {B x c np : Nat} {g T : Nat → Nat} {P : Nat → Nat → Nat} {sv : Option (Nat → Nat)} {er fl : Option Nat} {L : List Nat} (hX : XR B h x g P c sv er fl T np L) (hB : B < 2 ^ 20) (y : Int32) : zC Γ l d mX_formatEntry [.ref x, .int y] h n 1 6 (zXq x h n ["", sNS] (aFmtE g y) (fun h1 => XR B h1 x g P c sv er fl T np (zLe g y L))) := by
  have hX9 := hX; obtain ⟨⟨st, hst, hx, htr⟩, hR, hI, hsv, hH, hrk, hpg, hn60, hTc, hL, hag⟩ := hX; have i0 := hI.1
  obtain ⟨p, Q, hC, hp, hA⟩ := id hR
  unfold aFmtE zLe
  refine zC_of (ls := [some (.ref x), some (.int y), none, none]) hl (by decide +kernel) rfl (Nat.le_of_ble_eq_true rfl) rfl ?_
  cases hZ : zHas g y with
  | false =>
    rw [if_neg (by decide), if_neg (by decide)]
    refine zs_aload_n (pc := 0) dX_formatEntry_0 rfl ?_
    refine zs_iload_n (pc := 1) dX_formatEntry_1 rfl ?_
    refine zcVT_1 (pc := 2) (d2 := d - 1) (s_X_existing_n hl (by omega) hx hC hp hA hI hZ) dX_formatEntry_2 kX_127 mdX_existing miX_existing mvX_existing rfl (by exact hx) rfl (Nat.le_of_ble_eq_true rfl) (by omega) (by omega) (by omega) rfl (fun n2 hn2 => ?_)
    exact ⟨zOut.n rfl hn2, zfr.rf, hX9⟩
  | true =>
    rw [if_pos rfl, if_pos rfl]
    obtain ⟨f1, f2, f3⟩ := zHas_y hZ
    generalize zAt g y = k at f1 f2 f3 ⊢
    have hpk := hp.1 k (by omega)
    have hA1 := hA k f1
    have hb := hI.b hB f1
    have he9 := hC.2.2 (p k) hpk
    have hx9 := hx
    have hb9 := hb
    obtain ⟨b0, b1, b2, b3, b4, b5, b6⟩ := hb9
    have z0 := zD_le (m := eg g k 0) (by omega)
    have z1 := zD_le (m := eg g k 1) (by omega)
    have z2 := zD_le (m := eg g k 2) (by omega)
    have z3 := zD_le (m := eg g k 3) (by omega)
    have hfr : zfr (x + 476) 3 h h := zfr.rf
    have a0 := hA1 0 (by omega)
    have a1 := hA1 1 (by omega)
    have a2 := hA1 2 (by omega)
    have a3 := hA1 3 (by omega)
    have a4 := hA1 4 (by omega)
    refine zs_aload_n (pc := 0) dX_formatEntry_0 rfl ?_
    refine zs_iload_n (pc := 1) dX_formatEntry_1 rfl ?_
    refine zcV1_1 (pc := 2) (d2 := d - 1) (s_X_existing_y hl (by omega) hx hC hp hA hI f1 f2 f3) dX_formatEntry_2 kX_127 mdX_existing miX_existing mvX_existing rfl (by first | exact hx | exact hL.o | exact hT.o) rfl (Nat.le_of_ble_eq_true rfl) (by omega) (by omega) (by omega) ?_
    refine zs_astore_n (pc := 5) (ls2 := [_, _, _, _]) dX_formatEntry_5 (Nat.le_of_ble_eq_true rfl) rfl ?_
    refine zs_aload_n (pc := 6) dX_formatEntry_6 rfl ?_
    refine zs_get (pc := 7) dX_formatEntry_7 fX_50 (by first | exact hx9 | exact he9.1 | exact he9.2) (by rfl) ?_
    refine zcVQ_0 (pc := 10) (d2 := d - 1) (s_L_clear hl hL) dX_formatEntry_10 kX_304 mdL_clear miL_clear mvL_clear rfl (by first | exact hx | exact hL.o | exact hT.o) rfl (Nat.le_of_ble_eq_true rfl) (by omega) (by omega) (by omega) (fun v h1 n1 hq => ?_) (fun E h1 n1 hq => absurd hq.1 (by intro q; cases q))
    obtain ⟨hv9, rfl, hf9, hT⟩ := hq
    obtain rfl := Sum.inl.inj hv9
    have hfr := hfr.tr (hf9.sub (r2 := x + 476) (m2 := 3) (by omega) (by omega))
    have hx9 := (hfr x (by omega)).trans hx
    have he9 := (hC.sm (h1 := h1) (fun q q1 q2 => hfr q (by omega))).2.2 (p k) hpk
    refine zs_aload_n (pc := 13) dX_formatEntry_13 rfl ?_
    refine zs_get (pc := 14) dX_formatEntry_14 fX_50 (by first | exact hx9 | exact he9.1 | exact he9.2) (by rfl) ?_
    refine zs_bipush (pc := 17) dX_formatEntry_17 (zi_b 101 (by decide)) ?_
    refine zs_aload_n (pc := 19) dX_formatEntry_19 rfl ?_
    refine zs_get (pc := 20) dX_formatEntry_20 fX_124 (by first | exact hx9 | exact he9.1 | exact he9.2) (by rfl) ?_
    rw [a0]
    refine zcVQ_2 (pc := 23) (d2 := d - 1) (s_L_putField hl (by omega) hT (by omega) (by decide) (by decide)) dX_formatEntry_23 kX_307 mdL_putField miL_putField mvL_putField rfl (by first | exact hx | exact hL.o | exact hT.o) rfl (Nat.le_of_ble_eq_true rfl) (by omega) (by omega) (by omega) (fun v h1 n1 hq => ?_) (fun E h1 n1 hq => absurd hq.1 (by intro q; cases q))
    obtain ⟨hv9, rfl, hf9, hT⟩ := hq
    obtain rfl := Sum.inl.inj hv9
    have hfr := hfr.tr (hf9.sub (r2 := x + 476) (m2 := 3) (by omega) (by omega))
    have hx9 := (hfr x (by omega)).trans hx
    have he9 := (hC.sm (h1 := h1) (fun q q1 q2 => hfr q (by omega))).2.2 (p k) hpk
    refine zs_aload_n (pc := 26) dX_formatEntry_26 rfl ?_
    refine zs_get (pc := 27) dX_formatEntry_27 fX_50 (by first | exact hx9 | exact he9.1 | exact he9.2) (by rfl) ?_
    refine zs_bipush (pc := 30) dX_formatEntry_30 (zi_b 32 (by decide)) ?_
    refine zcVQ_1 (pc := 32) (d2 := d - 1) (s_L_put hl hT (by simp only [List.length_append, ydl_len, List.length_cons, List.length_nil]; omega) (by decide)) dX_formatEntry_32 kX_311 mdL_put miL_put mvL_put rfl (by first | exact hx | exact hL.o | exact hT.o) rfl (Nat.le_of_ble_eq_true rfl) (by omega) (by omega) (by omega) (fun v h1 n1 hq => ?_) (fun E h1 n1 hq => absurd hq.1 (by intro q; cases q))
    obtain ⟨hv9, rfl, hf9, hT⟩ := hq
    obtain rfl := Sum.inl.inj hv9
    have hfr := hfr.tr (hf9.sub (r2 := x + 476) (m2 := 3) (by omega) (by omega))
    have hx9 := (hfr x (by omega)).trans hx
    have he9 := (hC.sm (h1 := h1) (fun q q1 q2 => hfr q (by omega))).2.2 (p k) hpk
    refine zs_aload_n (pc := 35) dX_formatEntry_35 rfl ?_
    refine zs_get (pc := 36) dX_formatEntry_36 fX_50 (by first | exact hx9 | exact he9.1 | exact he9.2) (by rfl) ?_
    refine zs_bipush (pc := 39) dX_formatEntry_39 (zi_b 119 (by decide)) ?_
    refine zs_aload_n (pc := 41) dX_formatEntry_41 rfl ?_
    refine zs_get (pc := 42) dX_formatEntry_42 fX_131 (by first | exact hx9 | exact he9.1 | exact he9.2) (by rfl) ?_
    rw [a1]
    refine zcVQ_2 (pc := 45) (d2 := d - 1) (s_L_putField hl (by omega) hT (by omega) (by decide) (by simp only [List.length_append, ydl_len, List.length_cons, List.length_nil]; omega)) dX_formatEntry_45 kX_307 mdL_putField miL_putField mvL_putField rfl (by first | exact hx | exact hL.o | exact hT.o) rfl (Nat.le_of_ble_eq_true rfl) (by omega) (by omega) (by omega) (fun v h1 n1 hq => ?_) (fun E h1 n1 hq => absurd hq.1 (by intro q; cases q))
    obtain ⟨hv9, rfl, hf9, hT⟩ := hq
    obtain rfl := Sum.inl.inj hv9
    have hfr := hfr.tr (hf9.sub (r2 := x + 476) (m2 := 3) (by omega) (by omega))
    have hx9 := (hfr x (by omega)).trans hx
    have he9 := (hC.sm (h1 := h1) (fun q q1 q2 => hfr q (by omega))).2.2 (p k) hpk
    refine zs_aload_n (pc := 48) dX_formatEntry_48 rfl ?_
    refine zs_get (pc := 49) dX_formatEntry_49 fX_50 (by first | exact hx9 | exact he9.1 | exact he9.2) (by rfl) ?_
    refine zs_bipush (pc := 52) dX_formatEntry_52 (zi_b 32 (by decide)) ?_
    refine zcVQ_1 (pc := 54) (d2 := d - 1) (s_L_put hl hT (by simp only [List.length_append, ydl_len, List.length_cons, List.length_nil]; omega) (by decide)) dX_formatEntry_54 kX_311 mdL_put miL_put mvL_put rfl (by first | exact hx | exact hL.o | exact hT.o) rfl (Nat.le_of_ble_eq_true rfl) (by omega) (by omega) (by omega) (fun v h1 n1 hq => ?_) (fun E h1 n1 hq => absurd hq.1 (by intro q; cases q))
    obtain ⟨hv9, rfl, hf9, hT⟩ := hq
    obtain rfl := Sum.inl.inj hv9
    have hfr := hfr.tr (hf9.sub (r2 := x + 476) (m2 := 3) (by omega) (by omega))
    have hx9 := (hfr x (by omega)).trans hx
    have he9 := (hC.sm (h1 := h1) (fun q q1 q2 => hfr q (by omega))).2.2 (p k) hpk
    refine zs_aload_n (pc := 57) dX_formatEntry_57 rfl ?_
    refine zs_get (pc := 58) dX_formatEntry_58 fX_50 (by first | exact hx9 | exact he9.1 | exact he9.2) (by rfl) ?_
    refine zs_bipush (pc := 61) dX_formatEntry_61 (zi_b 97 (by decide)) ?_
    refine zs_aload_n (pc := 63) dX_formatEntry_63 rfl ?_
    refine zs_get (pc := 64) dX_formatEntry_64 fX_134 (by first | exact hx9 | exact he9.1 | exact he9.2) (by rfl) ?_
    rw [a2]
    refine zcVQ_2 (pc := 67) (d2 := d - 1) (s_L_putField hl (by omega) hT (by omega) (by decide) (by simp only [List.length_append, ydl_len, List.length_cons, List.length_nil]; omega)) dX_formatEntry_67 kX_307 mdL_putField miL_putField mvL_putField rfl (by first | exact hx | exact hL.o | exact hT.o) rfl (Nat.le_of_ble_eq_true rfl) (by omega) (by omega) (by omega) (fun v h1 n1 hq => ?_) (fun E h1 n1 hq => absurd hq.1 (by intro q; cases q))
    obtain ⟨hv9, rfl, hf9, hT⟩ := hq
    obtain rfl := Sum.inl.inj hv9
    have hfr := hfr.tr (hf9.sub (r2 := x + 476) (m2 := 3) (by omega) (by omega))
    have hx9 := (hfr x (by omega)).trans hx
    have he9 := (hC.sm (h1 := h1) (fun q q1 q2 => hfr q (by omega))).2.2 (p k) hpk
    refine zs_aload_n (pc := 70) dX_formatEntry_70 rfl ?_
    refine zs_get (pc := 71) dX_formatEntry_71 fX_50 (by first | exact hx9 | exact he9.1 | exact he9.2) (by rfl) ?_
    refine zs_bipush (pc := 74) dX_formatEntry_74 (zi_b 32 (by decide)) ?_
    refine zcVQ_1 (pc := 76) (d2 := d - 1) (s_L_put hl hT (by simp only [List.length_append, ydl_len, List.length_cons, List.length_nil]; omega) (by decide)) dX_formatEntry_76 kX_311 mdL_put miL_put mvL_put rfl (by first | exact hx | exact hL.o | exact hT.o) rfl (Nat.le_of_ble_eq_true rfl) (by omega) (by omega) (by omega) (fun v h1 n1 hq => ?_) (fun E h1 n1 hq => absurd hq.1 (by intro q; cases q))
    obtain ⟨hv9, rfl, hf9, hT⟩ := hq
    obtain rfl := Sum.inl.inj hv9
    have hfr := hfr.tr (hf9.sub (r2 := x + 476) (m2 := 3) (by omega) (by omega))
    have hx9 := (hfr x (by omega)).trans hx
    have he9 := (hC.sm (h1 := h1) (fun q q1 q2 => hfr q (by omega))).2.2 (p k) hpk
    refine zs_aload_n (pc := 79) dX_formatEntry_79 rfl ?_
    refine zs_get (pc := 80) dX_formatEntry_80 fX_50 (by first | exact hx9 | exact he9.1 | exact he9.2) (by rfl) ?_
    refine zs_bipush (pc := 83) dX_formatEntry_83 (zi_b 104 (by decide)) ?_
    refine zs_aload_n (pc := 85) dX_formatEntry_85 rfl ?_
    refine zs_get (pc := 86) dX_formatEntry_86 fX_137 (by first | exact hx9 | exact he9.1 | exact he9.2) (by rfl) ?_
    rw [a3]
    refine zcVQ_2 (pc := 89) (d2 := d - 1) (s_L_putField hl (by omega) hT (by omega) (by decide) (by simp only [List.length_append, ydl_len, List.length_cons, List.length_nil]; omega)) dX_formatEntry_89 kX_307 mdL_putField miL_putField mvL_putField rfl (by first | exact hx | exact hL.o | exact hT.o) rfl (Nat.le_of_ble_eq_true rfl) (by omega) (by omega) (by omega) (fun v h1 n1 hq => ?_) (fun E h1 n1 hq => absurd hq.1 (by intro q; cases q))
    obtain ⟨hv9, rfl, hf9, hT⟩ := hq
    obtain rfl := Sum.inl.inj hv9
    have hfr := hfr.tr (hf9.sub (r2 := x + 476) (m2 := 3) (by omega) (by omega))
    have hx9 := (hfr x (by omega)).trans hx
    have he9 := (hC.sm (h1 := h1) (fun q q1 q2 => hfr q (by omega))).2.2 (p k) hpk
    refine zs_aload_n (pc := 92) dX_formatEntry_92 rfl ?_
    refine zs_get (pc := 93) dX_formatEntry_93 fX_50 (by first | exact hx9 | exact he9.1 | exact he9.2) (by rfl) ?_
    refine zs_bipush (pc := 96) dX_formatEntry_96 (zi_b 32 (by decide)) ?_
    refine zcVQ_1 (pc := 98) (d2 := d - 1) (s_L_put hl hT (by simp only [List.length_append, ydl_len, List.length_cons, List.length_nil]; omega) (by decide)) dX_formatEntry_98 kX_311 mdL_put miL_put mvL_put rfl (by first | exact hx | exact hL.o | exact hT.o) rfl (Nat.le_of_ble_eq_true rfl) (by omega) (by omega) (by omega) (fun v h1 n1 hq => ?_) (fun E h1 n1 hq => absurd hq.1 (by intro q; cases q))
    obtain ⟨hv9, rfl, hf9, hT⟩ := hq
    obtain rfl := Sum.inl.inj hv9
    have hfr := hfr.tr (hf9.sub (r2 := x + 476) (m2 := 3) (by omega) (by omega))
    have hx9 := (hfr x (by omega)).trans hx
    have he9 := (hC.sm (h1 := h1) (fun q q1 q2 => hfr q (by omega))).2.2 (p k) hpk
    refine zs_aload_n (pc := 101) dX_formatEntry_101 rfl ?_
    refine zs_get (pc := 102) dX_formatEntry_102 fX_50 (by first | exact hx9 | exact he9.1 | exact he9.2) (by rfl) ?_
    refine zs_bipush (pc := 105) dX_formatEntry_105 (zi_b 115 (by decide)) ?_
    refine zs_aload_n (pc := 107) dX_formatEntry_107 rfl ?_
    refine zs_get (pc := 108) dX_formatEntry_108 fX_144 (by first | exact hx9 | exact he9.1 | exact he9.2) (by rfl) ?_
    rw [a4]
    refine zcVQ_2 (pc := 111) (d2 := d - 1) (s_L_putField hl (by omega) hT (by omega) (by decide) (by simp only [List.length_append, ydl_len, List.length_cons, List.length_nil]; omega)) dX_formatEntry_111 kX_307 mdL_putField miL_putField mvL_putField rfl (by first | exact hx | exact hL.o | exact hT.o) rfl (Nat.le_of_ble_eq_true rfl) (by omega) (by omega) (by omega) (fun v h1 n1 hq => ?_) (fun E h1 n1 hq => absurd hq.1 (by intro q; cases q))
    obtain ⟨hv9, rfl, hf9, hT⟩ := hq
    obtain rfl := Sum.inl.inj hv9
    have hfr := hfr.tr (hf9.sub (r2 := x + 476) (m2 := 3) (by omega) (by omega))
    have hx9 := (hfr x (by omega)).trans hx
    have he9 := (hC.sm (h1 := h1) (fun q q1 q2 => hfr q (by omega))).2.2 (p k) hpk
    refine zs_iconst (pc := 114) dX_formatEntry_114 zi_0 ?_
    refine zs_istore_n (pc := 115) (ls2 := [_, _, _, _]) dX_formatEntry_115 (Nat.le_of_ble_eq_true rfl) rfl ?_
    refine lp_X_formatEntry (k := k) hl hd hx hC hpk hA1 hb (fun h9 g1 g2 => ?_) (eg g k 5) 0 rfl _ hT hfr
    have hx9 := (g2 x (by omega)).trans hx
    refine zs_aload_n (pc := 152) dX_formatEntry_152 rfl ?_
    refine zs_get (pc := 153) dX_formatEntry_153 fX_50 (by first | exact hx9 | exact g1.o) (by rfl) ?_
    refine zs_get (pc := 156) dX_formatEntry_156 fX_318 (by first | exact hx9 | exact g1.o) (by rfl) ?_
    exact zs_iret (pc := 159) dX_formatEntry_159 rfl rfl (by omega) (by omega) (⟨zOut.y, g2.x (by decide), ⟨st, hst, hx9, htr.sm (fun q q1 q2 => g2 q (by omega))⟩, hR.sm (fun q q1 q2 => g2 q (by omega)), hI, hsv.sm (fun q q1 q2 => g2 q (by omega)), hH.sm (fun q q1 q2 => g2 q (by omega)), hrk.sm (fun q q1 q2 => g2 q (by omega)), hpg.sm (fun q q1 q2 => g2 q (by omega)), hn60, hTc, g1, hag.sm (fun q q1 q2 => g2 q (by omega))⟩)
def aLine (L : List Nat) (y : Int32) : Nat × Int32 := if zIx y L.length = true then (0, nI (L.getD y.toInt.toNat 0)) else (1, -1)
theorem LH.le {h : zH} {a : Nat} {L : List Nat} (_ : LH h a L) (h2 : L.length ≤ 480) : L.length < 2 ^ 31 := by omega
theorem s_X_lineChar {Γ : zG} {l : Launch} (hl : l.stackTraces = false) {d : Nat} {h : zH} {n : Nat} {B x c np : Nat} {g T : Nat → Nat} {P : Nat → Nat → Nat} {sv : Option (Nat → Nat)} {er fl : Option Nat} {L : List Nat} (hX : XR B h x g P c sv er fl T np L) (hB : B < 2 ^ 20) (hL4 : L.length ≤ 480) (hLc : ∀ c, c ∈ L → c < 128) (y : Int32) : zC Γ l d mX_lineChar [.ref x, .int y] h n 1 6 (zXq x h n ["", sIB] (aLine L y) (fun h1 => XR B h1 x g P c sv er fl T np L)) := by
  have hX9 := hX; obtain ⟨⟨st, hst, hx, htr⟩, hR, hI, hsv, hH, hrk, hpg, hn60, hTc, hL, hag⟩ := hX; have i0 := hI.1
  obtain ⟨u, w, t1, t2, t3, t4⟩ := id hL
  unfold aLine
  refine zC_of (ls := [some (.ref x), some (.int y)]) hl (by decide +kernel) rfl (Nat.le_of_ble_eq_true rfl) rfl ?_
  cases hv : zIx y L.length with
  | true =>
    rw [if_pos rfl]
    obtain ⟨v1, v2⟩ := zIx_y hv
    generalize y.toInt.toNat = k at v1 v2 ⊢
    subst v2
    have e := t4 k v1
    have e2 : L.getD k 0 = u k := by rw [List.getD_eq_getElem?_getD, e]; rfl
    have hu : u k < 128 := hLc _ (List.mem_of_getElem? e)
    rw [e2]
    refine zs_iload_n (pc := 0) dX_lineChar_0 rfl ?_
    refine zs_if_lt (pc := 1) 15 dX_lineChar_1 rfl (fun h9 => absurd h9 (nI_pos (by omega))) (fun _ => ?_)
    refine zs_iload_n (pc := 4) dX_lineChar_4 rfl ?_
    refine zs_aload_n (pc := 5) dX_lineChar_5 rfl ?_
    refine zs_get (pc := 6) dX_lineChar_6 fX_50 (by first | exact hx | exact t1 | exact t2) (by rfl) ?_
    refine zs_get (pc := 9) dX_lineChar_9 fX_318 (by first | exact hx | exact t1 | exact t2) (by rfl) ?_
    refine zn_icmp_lt (pc := 12) 26 dX_lineChar_12 rfl (by omega) (by omega) (fun _ => ?_) (fun h9 => absurd h9 (by omega))
    refine zs_aload_n (pc := 26) dX_lineChar_26 rfl ?_
    refine zs_get (pc := 27) dX_lineChar_27 fX_50 (by first | exact hx | exact t1 | exact t2) (by rfl) ?_
    refine zs_get (pc := 30) dX_lineChar_30 fX_329 (by first | exact hx | exact t1 | exact t2) (by rfl) ?_
    refine zs_iload_n (pc := 33) dX_lineChar_33 rfl ?_
    refine zn_cald (pc := 34) dX_lineChar_34 (by first | exact hx | exact t1 | exact t2) (by omega) (by first | decide | assumption) ?_
    exact zs_iret (pc := 35) dX_lineChar_35 rfl (pk_charN (by omega)).1 (by omega) (by omega) (⟨zOut.y, zfr.rf, hX9⟩)
  | false =>
    rw [if_neg (by decide)]
    refine zs_iload_n (pc := 0) dX_lineChar_0 rfl ?_
    refine zs_if_lt (pc := 1) 15 dX_lineChar_1 rfl (fun hb => ?_) (fun hb => ?_)
    · exact zs_throwW (pc := 15) (text := "no such character") thIB (by decide) rfl dX_lineChar_15 dX_lineChar_18 dX_lineChar_19 dX_lineChar_22 dX_lineChar_25 (Nat.le_of_ble_eq_true rfl) (by omega) (by omega) (fun n2 hn2 => ⟨zOut.n rfl hn2, zfr.rf, hX9⟩)
    · refine zs_iload_n (pc := 4) dX_lineChar_4 rfl ?_
      refine zs_aload_n (pc := 5) dX_lineChar_5 rfl ?_
      refine zs_get (pc := 6) dX_lineChar_6 fX_50 (by first | exact hx | exact t1 | exact t2) (by rfl) ?_
      refine zs_get (pc := 9) dX_lineChar_9 fX_318 (by first | exact hx | exact t1 | exact t2) (by rfl) ?_
      refine zs_icmp_lt (pc := 12) 26 dX_lineChar_12 rfl (fun h9 => absurd h9 (zIx_n hv hb (by omega))) (fun _ => ?_)
      exact zs_throwW (pc := 15) (text := "no such character") thIB (by decide) rfl dX_lineChar_15 dX_lineChar_18 dX_lineChar_19 dX_lineChar_22 dX_lineChar_25 (Nat.le_of_ble_eq_true rfl) (by omega) (by omega) (fun n2 hn2 => ⟨zOut.n rfl hn2, zfr.rf, hX9⟩)
def aApp (n v : Nat) : Nat × Int32 := if 32 ≤ v ∧ v ≤ 126 then (if n = 60 then (2, -1) else (0, nI (n + 1))) else (1, -1)
theorem s_X_append {Γ : zG} {l : Launch} (hl : l.stackTraces = false) {d : Nat} (hd : 3 ≤ d) {h : zH} {n : Nat} {B x c np : Nat} {g T : Nat → Nat} {P : Nat → Nat → Nat} {sv : Option (Nat → Nat)} {er fl : Option Nat} {L : List Nat} (hX : XR B h x g P c sv er fl T np L) (hB : B < 2 ^ 20) {v : Nat} (hv : v < 65536) : zC Γ l d mX_append [.ref x, .int (nI v)] h n 1 6 (zXq x h n ["", sIA, sIS] (aApp np v) (fun h1 => XR B h1 x g P c sv er fl (if (aApp np v).1 = 0 then zup T np v else T) (if (aApp np v).1 = 0 then np + 1 else np) L)) := by
  have hX9 := hX; obtain ⟨⟨st, hst, hx, htr⟩, hR, hI, hsv, hH, hrk, hpg, hn60, hTc, hL, hag⟩ := hX; have i0 := hI.1
  obtain ⟨po, v0, c0, m, K, F, S, hPo⟩ := id hpg
  unfold aApp
  refine zC_of (ls := [some (.ref x), some (.int (nI v))]) hl (by decide +kernel) rfl (Nat.le_of_ble_eq_true rfl) rfl ?_
  by_cases e1 : v < 32
  · rw [if_neg (by omega), if_neg (by decide), if_neg (by decide)]
    refine zs_iload_n (pc := 0) dX_append_0 rfl ?_
    refine zs_bipush (pc := 1) dX_append_1 (zi_b 32 (by decide)) ?_
    refine zn_icmp_lt (pc := 3) 12 dX_append_3 rfl (by omega) (by omega) (fun _ => ?_) (fun h9 => absurd h9 (by omega))
    exact zs_throwW (pc := 12) (text := "not a printable character") thIA (by decide) rfl dX_append_12 dX_append_15 dX_append_16 dX_append_19 dX_append_22 (Nat.le_of_ble_eq_true rfl) (by omega) (by omega) (fun n2 hn2 => ⟨zOut.n rfl hn2, zfr.rf, hX9⟩)
  · by_cases e2 : v ≤ 126
    · rw [if_pos ⟨by omega, e2⟩]
      by_cases e3 : np = 60
      · rw [if_pos e3, if_neg (by decide), if_neg (by decide)]
        refine zs_iload_n (pc := 0) dX_append_0 rfl ?_
        refine zs_bipush (pc := 1) dX_append_1 (zi_b 32 (by decide)) ?_
        refine zn_icmp_lt (pc := 3) 12 dX_append_3 rfl (by omega) (by omega) (fun h9 => absurd h9 (by omega)) (fun _ => ?_)
        refine zs_iload_n (pc := 6) dX_append_6 rfl ?_
        refine zs_bipush (pc := 7) dX_append_7 (zi_b 126 (by decide)) ?_
        refine zn_icmp_le (pc := 9) 23 dX_append_9 rfl (by omega) (by omega) (fun _ => ?_) (fun h9 => absurd h9 (by omega))
        refine zs_aload_n (pc := 23) dX_append_23 rfl ?_
        refine zs_get (pc := 24) dX_append_24 fX_43 (by first | exact hx | exact hPo.1) (by rfl) ?_
        refine zs_get (pc := 27) dX_append_27 fX_335 (by first | exact hx | exact hPo.1) (by rfl) ?_
        refine zs_bipush (pc := 30) dX_append_30 (zi_b 60 (by decide)) ?_
        refine zn_icmp_lt (pc := 32) 46 dX_append_32 rfl (by omega) (by omega) (fun h9 => absurd h9 (by omega)) (fun _ => ?_)
        exact zs_throwW (pc := 35) (text := "the buffer is full") thIS (by decide) rfl dX_append_35 dX_append_38 dX_append_39 dX_append_42 dX_append_45 (Nat.le_of_ble_eq_true rfl) (by omega) (by omega) (fun n2 hn2 => ⟨zOut.n rfl hn2, zfr.rf, hX9⟩)
      · rw [if_neg e3, if_pos rfl, if_pos rfl]
        have hkz : ∀ q, ¬ (x + 471 ≤ q ∧ q < x + 476) → zu (zu h (x + 471 + 1) (zAr 1 60 (zup T np v))) (x + 471) (zPo (x + 471) (np + 1) po v0 c0 m) q = h q := fun q q1 => by rw [zu_n (by omega), zu_n (by omega)]
        refine zs_iload_n (pc := 0) dX_append_0 rfl ?_
        refine zs_bipush (pc := 1) dX_append_1 (zi_b 32 (by decide)) ?_
        refine zn_icmp_lt (pc := 3) 12 dX_append_3 rfl (by omega) (by omega) (fun h9 => absurd h9 (by omega)) (fun _ => ?_)
        refine zs_iload_n (pc := 6) dX_append_6 rfl ?_
        refine zs_bipush (pc := 7) dX_append_7 (zi_b 126 (by decide)) ?_
        refine zn_icmp_le (pc := 9) 23 dX_append_9 rfl (by omega) (by omega) (fun _ => ?_) (fun h9 => absurd h9 (by omega))
        refine zs_aload_n (pc := 23) dX_append_23 rfl ?_
        refine zs_get (pc := 24) dX_append_24 fX_43 (by first | exact hx | exact hPo.1) (by rfl) ?_
        refine zs_get (pc := 27) dX_append_27 fX_335 (by first | exact hx | exact hPo.1) (by rfl) ?_
        refine zs_bipush (pc := 30) dX_append_30 (zi_b 60 (by decide)) ?_
        refine zn_icmp_lt (pc := 32) 46 dX_append_32 rfl (by omega) (by omega) (fun _ => ?_) (fun h9 => absurd h9 (by omega))
        refine zs_aload_n (pc := 46) dX_append_46 rfl ?_
        refine zs_get (pc := 47) dX_append_47 fX_43 (by first | exact hx | exact hPo.1) (by rfl) ?_
        refine zs_iload_n (pc := 50) dX_append_50 rfl ?_
        refine zcV1_1 (pc := 51) (d2 := d - 1) (s_P_add hl hPo (by omega) (by omega)) dX_append_51 kX_338 mdP_add miP_add mvP_add rfl (by exact hPo.1) rfl (Nat.le_of_ble_eq_true rfl) (by omega) (by omega) (by omega) ?_
        refine zs_iret (pc := 54) dX_append_54 rfl rfl (by omega) (by omega) (⟨zOut.y, fun q hq => hkz q (by omega), ⟨st, hst, by rw [hkz _ (by omega)]; exact hx, htr.sm (fun q q1 q2 => hkz q (by omega))⟩, hR.sm (fun q q1 q2 => hkz q (by omega)), hI, hsv.sm (fun q q1 q2 => hkz q (by omega)), hH.sm (fun q q1 q2 => hkz q (by omega)), hrk.sm (fun q q1 q2 => hkz q (by omega)), ⟨_, _, _, _, _, _, _, (hPo.T (T2 := zup T np v)).o⟩, by omega, fun i hi => ?_, hL.sm (fun q q1 q2 => hkz q (by omega)), hag.sm (fun q q1 q2 => hkz q (by omega))⟩)
        by_cases e : i = np
        · subst e
          rw [zup_s]
          omega
        · rw [zup_n e]
          exact hTc i (by omega)
    · rw [if_neg (by omega), if_neg (by decide), if_neg (by decide)]
      refine zs_iload_n (pc := 0) dX_append_0 rfl ?_
      refine zs_bipush (pc := 1) dX_append_1 (zi_b 32 (by decide)) ?_
      refine zn_icmp_lt (pc := 3) 12 dX_append_3 rfl (by omega) (by omega) (fun h9 => absurd h9 (by omega)) (fun _ => ?_)
      refine zs_iload_n (pc := 6) dX_append_6 rfl ?_
      refine zs_bipush (pc := 7) dX_append_7 (zi_b 126 (by decide)) ?_
      refine zn_icmp_le (pc := 9) 23 dX_append_9 rfl (by omega) (by omega) (fun h9 => absurd h9 (by omega)) (fun _ => ?_)
      exact zs_throwW (pc := 12) (text := "not a printable character") thIA (by decide) rfl dX_append_12 dX_append_15 dX_append_16 dX_append_19 dX_append_22 (Nat.le_of_ble_eq_true rfl) (by omega) (by omega) (fun n2 hn2 => ⟨zOut.n rfl hn2, zfr.rf, hX9⟩)

