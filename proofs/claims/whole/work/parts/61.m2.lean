/-! the model's changes -/
def zma (o : zOp) : Int32 := if o.1 = 0 then nI o.2.1 else -1
def zmth (t : Int32) (o : zOp) : Int32 := if o.1 = 0 then t else nI o.1
theorem s_M_inV_y {Γ : zG} {l : Launch} (hl : l.stackTraces = false) {d : Nat} {h : zH} {n : Nat} {x : Int32} {lo hi : Nat} {L H : Int64} (hL : L.toInt = (lo : Int)) (hH : H.toInt = (hi : Int)) (hv : zV x lo hi = true) : zC Γ l d mM_in [.long x.toInt64, .long L, .long H] h n 0 0 (zR (some (.int 1)) h n) := by
  have h9 := s_M_inI (Γ := Γ) (d := d) (h := h) (n := n) (x := x) hl hL hH
  have e : decide ((lo : Int) ≤ x.toInt ∧ x.toInt ≤ (hi : Int)) = true := hv
  rw [e] at h9
  exact h9
theorem s_M_inV_n {Γ : zG} {l : Launch} (hl : l.stackTraces = false) {d : Nat} {h : zH} {n : Nat} {x : Int32} {lo hi : Nat} {L H : Int64} (hL : L.toInt = (lo : Int)) (hH : H.toInt = (hi : Int)) (hv : zV x lo hi = false) : zC Γ l d mM_in [.long x.toInt64, .long L, .long H] h n 0 0 (zR (some (.int 0)) h n) := by
  have h9 := s_M_inI (Γ := Γ) (d := d) (h := h) (n := n) (x := x) hl hL hH
  have e : decide ((lo : Int) ≤ x.toInt ∧ x.toInt ≤ (hi : Int)) = false := hv
  rw [e] at h9
  exact h9
/-! an entry leaves -/
def zlva (g : Nat → Nat) (k i : Nat) : Nat → Nat := fun j => if 6 + 12 * k ≤ j ∧ j < i then g (j + 12) else g j
def zlvb (g : Nat → Nat) (k i : Nat) : Nat → Nat := fun j => if 6 + 12 * k ≤ j ∧ j < 234 then g (j + 12) else if 234 ≤ j ∧ j < i then 0 else g j
theorem lpa_M_leaves {Γ : zG} {l : Launch} (hl : l.stackTraces = false) {d : Nat} {h : zH} {n a : Nat} {g : Nat → Nat} {s3 s5 s6 s7 s8 s10 s12 s16 s17 s18 s19 s20 : Int32} {k : Nat} {x : Int32} {FN : List Frame → Array Value → State → State → Prop} (hk : k < 20) (K : Z Γ l mM_leaves d 0 0 FN 33 [some (.ref a), some (.int x), some (.int (nI 234))] [] (z2 h a (zAr 0 246 (zlva g k 234)) (zMo a s3 s5 s6 s7 s8 s10 s12 s16 s17 s18 s19 s20)) n 0 0) : ∀ f i, f + i = 234 → 6 + 12 * k ≤ i → Z Γ l mM_leaves d 0 0 FN 5 [some (.ref a), some (.int x), some (.int (nI i))] [] (z2 h a (zAr 0 246 (zlva g k i)) (zMo a s3 s5 s6 s7 s8 s10 s12 s16 s17 s18 s19 s20)) n 0 0 := by
  intro f
  induction f with
  | zero =>
    intro i hi hki
    obtain rfl : i = 234 := by omega
    refine zs_iload_n (pc := 5) dM_leaves_5 rfl ?_
    refine zs_sipush (pc := 6) dM_leaves_6 (zi_s 234 (by decide)) ?_
    refine zn_icmp_ge (pc := 9) 33 dM_leaves_9 rfl (by omega) (by omega) (fun _ => ?_) (fun h9 => absurd h9 (by omega))
    exact K
  | succ f ih =>
    intro i hi hki
    have hz := ih (i + 1) (by omega) (by omega)
    have e : zup (zlva g k i) i (zlva g k i (i + 12)) = zlva g k (i + 1) := by
      funext j
      unfold zup zlva
      (repeat' split) <;> first | rfl | (exfalso; omega) | (congr 1; omega) | omega
    refine zs_iload_n (pc := 5) dM_leaves_5 rfl ?_
    refine zs_sipush (pc := 6) dM_leaves_6 (zi_s 234 (by decide)) ?_
    refine zn_icmp_ge (pc := 9) 33 dM_leaves_9 rfl (by omega) (by omega) (fun h9 => absurd h9 (by omega)) (fun _ => ?_)
    refine zs_aload_n (pc := 12) dM_leaves_12 rfl ?_
    refine zs_get (pc := 13) dM_leaves_13 fM_9 (by first | exact z2_a | exact z2_1) (by rfl) ?_
    refine zs_iload_n (pc := 16) dM_leaves_16 rfl ?_
    refine zs_aload_n (pc := 17) dM_leaves_17 rfl ?_
    refine zs_get (pc := 18) dM_leaves_18 fM_9 (by first | exact z2_a | exact z2_1) (by rfl) ?_
    refine zs_iload_n (pc := 21) dM_leaves_21 rfl ?_
    refine zs_bipush (pc := 22) dM_leaves_22 (zi_b 12 (by decide)) ?_
    refine zn_iadd (pc := 24) dM_leaves_24 ?_
    refine zn_iald (pc := 25) dM_leaves_25 (by first | exact z2_a | exact z2_1) (by omega) (by first | decide | assumption) ?_
    refine zn_iast (pc := 26) dM_leaves_26 (by first | exact z2_a | exact z2_1) (by omega) (by first | decide | assumption) ?_
    first | rw [z2_G] | rw [z2_q2] | rw [z2_q3] | rw [z2_q4] | rw [z2_q5] | rw [z2_q6] | rw [z2_q9]
    rw [e]
    refine zn_iinc (pc := 27) (ls2 := [_, _, _]) dM_leaves_27 rfl (Nat.le_of_ble_eq_true rfl) rfl ?_
    refine zs_goto (pc := 30) 5 dM_leaves_30 rfl ?_
    exact hz
theorem lpb_M_leaves {Γ : zG} {l : Launch} (hl : l.stackTraces = false) {d : Nat} {h : zH} {n a : Nat} {g : Nat → Nat} {s3 s5 s6 s7 s8 s10 s12 s16 s17 s18 s19 s20 : Int32} {k : Nat} {x : Int32} {FN : List Frame → Array Value → State → State → Prop} (hk : k < 20) (K : Z Γ l mM_leaves d 0 0 FN 57 [some (.ref a), some (.int x), some (.int (nI 246))] [] (z2 h a (zAr 0 246 (zlvb g k 246)) (zMo a s3 s5 s6 s7 s8 s10 s12 s16 s17 s18 s19 s20)) n 0 0) : ∀ f i, f + i = 246 → 234 ≤ i → Z Γ l mM_leaves d 0 0 FN 37 [some (.ref a), some (.int x), some (.int (nI i))] [] (z2 h a (zAr 0 246 (zlvb g k i)) (zMo a s3 s5 s6 s7 s8 s10 s12 s16 s17 s18 s19 s20)) n 0 0 := by
  intro f
  induction f with
  | zero =>
    intro i hi hki
    obtain rfl : i = 246 := by omega
    refine zs_iload_n (pc := 37) dM_leaves_37 rfl ?_
    refine zs_sipush (pc := 38) dM_leaves_38 (zi_s 246 (by decide)) ?_
    refine zn_icmp_ge (pc := 41) 57 dM_leaves_41 rfl (by omega) (by omega) (fun _ => ?_) (fun h9 => absurd h9 (by omega))
    exact K
  | succ f ih =>
    intro i hi hki
    have hz := ih (i + 1) (by omega) (by omega)
    have e : zup (zlvb g k i) i 0 = zlvb g k (i + 1) := by
      funext j
      unfold zup zlvb
      (repeat' split) <;> first | rfl | (exfalso; omega) | (congr 1; omega) | omega
    refine zs_iload_n (pc := 37) dM_leaves_37 rfl ?_
    refine zs_sipush (pc := 38) dM_leaves_38 (zi_s 246 (by decide)) ?_
    refine zn_icmp_ge (pc := 41) 57 dM_leaves_41 rfl (by omega) (by omega) (fun h9 => absurd h9 (by omega)) (fun _ => ?_)
    refine zs_aload_n (pc := 44) dM_leaves_44 rfl ?_
    refine zs_get (pc := 45) dM_leaves_45 fM_9 (by first | exact z2_a | exact z2_1) (by rfl) ?_
    refine zs_iload_n (pc := 48) dM_leaves_48 rfl ?_
    refine zs_iconst (pc := 49) dM_leaves_49 zi_0 ?_
    refine zn_iast (pc := 50) dM_leaves_50 (by first | exact z2_a | exact z2_1) (by omega) (by first | decide | assumption) ?_
    first | rw [z2_G] | rw [z2_q2] | rw [z2_q3] | rw [z2_q4] | rw [z2_q5] | rw [z2_q6] | rw [z2_q9]
    rw [e]
    refine zn_iinc (pc := 51) (ls2 := [_, _, _]) dM_leaves_51 rfl (Nat.le_of_ble_eq_true rfl) rfl ?_
    refine zs_goto (pc := 54) 37 dM_leaves_54 rfl ?_
    exact hz
theorem s_M_leaves {Γ : zG} {l : Launch} (hl : l.stackTraces = false) {d : Nat} (hd : 1 ≤ d) {h : zH} {n a : Nat} {g : Nat → Nat} {s3 s5 s6 s7 s8 s10 s12 s16 s17 s18 s19 s20 : Int32} {k : Nat} (hk : k < 20) (h0 : 0 < g 0) : zC Γ l d mM_leaves [.ref a, .int (nI k)] (z2 h a (zAr 0 246 (g)) (zMo a s3 s5 s6 s7 s8 s10 s12 s16 s17 s18 s19 s20)) n 0 0 (zR none (z2 h a (zAr 0 246 (zlv g k)) (zMo a s3 s5 s6 s7 s8 s10 s12 s16 s17 s18 s19 s20)) n) := by
  have ha0 : zlva g k (6 + 12 * k) = g := by
    funext j
    unfold zlva
    rw [if_neg (by omega)]
  have hab : zlvb g k 234 = zlva g k 234 := by
    funext j
    unfold zlvb zlva
    (repeat' split) <;> first | rfl | (exfalso; omega) | (congr 1; omega) | omega
  have e0 : zlvb g k 246 0 = g 0 := by
    unfold zlvb
    rw [if_neg (by omega), if_neg (by omega)]
  have e : zup (zlvb g k 246) 0 (g 0 - 1) = zlv g k := by
    funext j
    unfold zup zlvb zlv
    (repeat' split) <;> first | rfl | (exfalso; omega) | (congr 1; omega) | omega
  refine zC_of (ls := [some (.ref a), some (.int (nI k)), none]) hl (by decide +kernel) rfl (Nat.le_of_ble_eq_true rfl) rfl ?_
  refine zs_iload_n (pc := 0) dM_leaves_0 rfl ?_
  refine zcS1_1 (pc := 1) (d2 := d - 1) (s_M_entryAt hl) dM_leaves_1 kM_51 mdM_entryAt msM_entryAt rfl (Nat.le_of_ble_eq_true rfl) (by omega) (by omega) (by omega) ?_
  refine zs_istore_n (pc := 4) (ls2 := [_, _, _]) dM_leaves_4 (Nat.le_of_ble_eq_true rfl) rfl ?_
  have fin : Z Γ l mM_leaves d 0 0 (zFin Γ (zR none (z2 h a (zAr 0 246 (zlv g k)) (zMo a s3 s5 s6 s7 s8 s10 s12 s16 s17 s18 s19 s20)) n) 0 0) 57 [some (.ref a), some (.int (nI k)), some (.int (nI 246))] [] (z2 h a (zAr 0 246 (zlvb g k 246)) (zMo a s3 s5 s6 s7 s8 s10 s12 s16 s17 s18 s19 s20)) n 0 0 := by
    refine zs_aload_n (pc := 57) dM_leaves_57 rfl ?_
    refine zs_get (pc := 58) dM_leaves_58 fM_9 (by first | exact z2_a | exact z2_1) (by rfl) ?_
    refine zs_iconst (pc := 61) dM_leaves_61 zi_0 ?_
    refine zs_dup2 (pc := 62) dM_leaves_62 rfl rfl ?_
    refine zn_iald (pc := 63) dM_leaves_63 (by first | exact z2_a | exact z2_1) (by omega) (by first | decide | assumption) ?_
    rw [e0]
    refine zs_iconst (pc := 64) dM_leaves_64 zi_1 ?_
    refine zn_isub (pc := 65) dM_leaves_65 (by omega) ?_
    refine zn_iast (pc := 66) dM_leaves_66 (by first | exact z2_a | exact z2_1) (by omega) (by first | decide | assumption) ?_
    first | rw [z2_G] | rw [z2_q2] | rw [z2_q3] | rw [z2_q4] | rw [z2_q5] | rw [z2_q6] | rw [z2_q9]
    rw [e]
    exact zs_vret (pc := 67) dM_leaves_67 rfl (by omega) (by omega) (⟨rfl, rfl, rfl⟩)
  have mid := lpb_M_leaves (Γ := Γ) (l := l) hl (d := d) hk fin 12 234 rfl (Nat.le_refl _)
  rw [hab] at mid
  have mid2 : Z Γ l mM_leaves d 0 0 (zFin Γ (zR none (z2 h a (zAr 0 246 (zlv g k)) (zMo a s3 s5 s6 s7 s8 s10 s12 s16 s17 s18 s19 s20)) n) 0 0) 33 [some (.ref a), some (.int (nI k)), some (.int (nI 234))] [] (z2 h a (zAr 0 246 (zlva g k 234)) (zMo a s3 s5 s6 s7 s8 s10 s12 s16 s17 s18 s19 s20)) n 0 0 := by
    refine zs_sipush (pc := 33) dM_leaves_33 (zi_s 234 (by decide)) ?_
    refine zs_istore_n (pc := 36) (ls2 := [_, _, _]) dM_leaves_36 (Nat.le_of_ble_eq_true rfl) rfl ?_
    exact mid
  have h9 := lpa_M_leaves (Γ := Γ) (l := l) (g := g) (x := nI k) hl (d := d) hk mid2 (234 - (6 + 12 * k)) (6 + 12 * k) (by omega) (Nat.le_refl _)
  rw [ha0] at h9
  exact h9
/-! a code comes -/
def zshm (q : Nat → Nat) (p : Nat) : Nat → Nat := fun j => if 6 + p < j ∧ j ≤ 6 + q 5 then q (j - 1) else q j
theorem zput_id {g : Nat → Nat} {k : Nat} : zput g k (eg g k) = g := by
  funext j
  unfold zput eg
  (repeat' split) <;> first | rfl | (exfalso; omega) | (congr 1; omega) | omega
theorem zput_ext {g q q2 : Nat → Nat} {k : Nat} (h : ∀ i, i < 12 → q i = q2 i) : zput g k q = zput g k q2 := by
  funext j
  unfold zput
  split
  · exact h _ (by omega)
  · rfl
theorem zup_put {g q : Nat → Nat} {k i v : Nat} (hi : i < 12) : zup (zput g k q) (6 + 12 * k + i) v = zput g k (zup q i v) := by
  funext j
  dsimp only [zup, zput]
  (repeat' split) <;> first | rfl | (exfalso; omega) | (congr 1; omega) | omega
theorem zput_at {g q : Nat → Nat} {k i : Nat} (hi : i < 12) : zput g k q (6 + 12 * k + i) = q i := by
  unfold zput
  rw [if_pos (by omega)]
  congr 1
  omega
theorem lp_M_puts {Γ : zG} {l : Launch} (hl : l.stackTraces = false) {d : Nat} (hd : 2 ≤ d) {h : zH} {n a : Nat} {g : Nat → Nat} {s3 s5 s6 s7 s8 s10 s12 s16 s17 s18 s19 s20 : Int32} {k v : Nat} (hk : k < 20) (h5 : eg g k 5 < 6) (hc : ∀ i, i < eg g k 5 → eg g k (6 + i) < 1000) (hv : v < 1000) : ∀ p, p ≤ eg g k 5 → zpos (eg g k) v (eg g k 5) = zpos (eg g k) v p → Z Γ l mM_puts d 0 0 (zFin Γ (zR none (z2 h a (zAr 0 246 (zput g k (zins (eg g k) v))) (zMo a s3 s5 s6 s7 s8 s10 s12 s16 s17 s18 s19 s20)) n) 0 0) 15 [some (.ref a), some (.int (nI k)), some (.int (nI v)), some (.int (nI (6 + 12 * k))), some (.int (nI p))] [] (z2 h a (zAr 0 246 (zput g k (zshm (eg g k) p))) (zMo a s3 s5 s6 s7 s8 s10 s12 s16 s17 s18 s19 s20)) n 0 0 := by
  generalize hq : eg g k = q at h5 hc
  have fin : ∀ p, p ≤ q 5 → zpos q v (q 5) = p → Z Γ l mM_puts d 0 0 (zFin Γ (zR none (z2 h a (zAr 0 246 (zput g k (zins q v))) (zMo a s3 s5 s6 s7 s8 s10 s12 s16 s17 s18 s19 s20)) n) 0 0) 65 [some (.ref a), some (.int (nI k)), some (.int (nI v)), some (.int (nI (6 + 12 * k))), some (.int (nI p))] [] (z2 h a (zAr 0 246 (zput g k (zshm q p))) (zMo a s3 s5 s6 s7 s8 s10 s12 s16 s17 s18 s19 s20)) n 0 0 := by
    intro p hp hpos
    have e5 : zup (zshm q p) (6 + p) v 5 = q 5 := by
      unfold zup zshm
      rw [if_neg (by omega), if_neg (by omega)]
    have e9 : zput g k (zup (zup (zshm q p) (6 + p) v) 5 (q 5 + 1)) = zput g k (zins q v) := zput_ext fun i hi => by
      unfold zup zshm zins
      rw [hpos]
      (repeat' split) <;> first | rfl | (exfalso; omega) | (congr 1; omega) | omega
    have er : zup (zput g k (zshm q p)) (6 + 12 * k + 6 + p) v = zput g k (zup (zshm q p) (6 + p) v) := by
      rw [show 6 + 12 * k + 6 + p = 6 + 12 * k + (6 + p) by omega]
      exact zup_put (by omega)
    refine zs_aload_n (pc := 65) dM_puts_65 rfl ?_
    refine zs_get (pc := 66) dM_puts_66 fM_9 (by first | exact z2_a | exact z2_1) (by rfl) ?_
    refine zs_iload_n (pc := 69) dM_puts_69 rfl ?_
    refine zs_bipush (pc := 70) dM_puts_70 (zi_b 6 (by decide)) ?_
    refine zn_iadd (pc := 72) dM_puts_72 ?_
    refine zs_iload (pc := 73) dM_puts_73 rfl ?_
    refine zn_iadd (pc := 75) dM_puts_75 ?_
    refine zs_iload_n (pc := 76) dM_puts_76 rfl ?_
    refine zn_iast (pc := 77) dM_puts_77 (by first | exact z2_a | exact z2_1) (by omega) (by first | decide | assumption) ?_
    first | rw [z2_G] | rw [z2_q2] | rw [z2_q3] | rw [z2_q4] | rw [z2_q5] | rw [z2_q6] | rw [z2_q9]
    rw [er]
    refine zs_aload_n (pc := 78) dM_puts_78 rfl ?_
    refine zs_get (pc := 79) dM_puts_79 fM_9 (by first | exact z2_a | exact z2_1) (by rfl) ?_
    refine zs_iload_n (pc := 82) dM_puts_82 rfl ?_
    refine zs_iconst (pc := 83) dM_puts_83 zi_5 ?_
    refine zn_iadd (pc := 84) dM_puts_84 ?_
    refine zs_dup2 (pc := 85) dM_puts_85 rfl rfl ?_
    refine zn_iald (pc := 86) dM_puts_86 (by first | exact z2_a | exact z2_1) (by omega) (by first | decide | assumption) ?_
    rw [zput_at (by decide), e5]
    refine zs_iconst (pc := 87) dM_puts_87 zi_1 ?_
    refine zn_iadd (pc := 88) dM_puts_88 ?_
    refine zn_iast (pc := 89) dM_puts_89 (by first | exact z2_a | exact z2_1) (by omega) (by first | decide | assumption) ?_
    first | rw [z2_G] | rw [z2_q2] | rw [z2_q3] | rw [z2_q4] | rw [z2_q5] | rw [z2_q6] | rw [z2_q9]
    rw [zup_put (by decide), e9]
    exact zs_vret (pc := 90) dM_puts_90 rfl (by omega) (by omega) (⟨rfl, rfl, rfl⟩)
  intro p
  induction p with
  | zero =>
    intro hp hpos
    refine zs_iload (pc := 15) dM_puts_15 rfl ?_
    refine zn_if_le (pc := 17) 65 dM_puts_17 rfl (by omega) (fun _ => ?_) (fun h9 => absurd h9 (by omega))
    exact fin 0 hp hpos
  | succ p ih =>
    intro hp hpos
    have hpos2 : zpos q v (q 5) = (if v < q (6 + p) then zpos q v p else p + 1) := hpos
    have hcp := hc p (by omega)
    have ez : eg (zput g k (zshm q (p + 1))) k (6 + (p + 1 - 1)) = q (6 + p) := by
      rw [show p + 1 - 1 = p by omega, eg_put_s (by omega)]
      unfold zshm
      rw [if_neg (by omega)]
    have er : zput g k (zshm q (p + 1)) (6 + 12 * k + 6 + (p + 1) - 1) = q (6 + p) := by
      rw [show 6 + 12 * k + 6 + (p + 1) - 1 = 6 + 12 * k + (6 + p) by omega, zput_at (by omega)]
      unfold zshm
      rw [if_neg (by omega)]
    have ew : zup (zput g k (zshm q (p + 1))) (6 + 12 * k + 6 + (p + 1)) (q (6 + p)) = zput g k (zshm q p) := by
      rw [show 6 + 12 * k + 6 + (p + 1) = 6 + 12 * k + (6 + (p + 1)) by omega, zup_put (by omega)]
      refine zput_ext fun i hi => ?_
      unfold zup zshm
      (repeat' split) <;> first | rfl | (exfalso; omega) | (congr 1; omega) | omega
    refine zs_iload (pc := 15) dM_puts_15 rfl ?_
    refine zn_if_le (pc := 17) 65 dM_puts_17 rfl (by omega) (fun h9 => absurd h9 (by omega)) (fun _ => ?_)
    refine zs_aload_n (pc := 20) dM_puts_20 rfl ?_
    refine zs_iload_n (pc := 21) dM_puts_21 rfl ?_
    refine zs_iload (pc := 22) dM_puts_22 rfl ?_
    refine zs_iconst (pc := 24) dM_puts_24 zi_1 ?_
    refine zn_isub (pc := 25) dM_puts_25 (by omega) ?_
    refine zcV1_2 (pc := 26) (d2 := d - 1) (s_M_codeOf hl (by omega) hk (by omega)) dM_puts_26 kM_62 mdM_codeOf miM_codeOf mvM_codeOf rfl (by exact z2_a) rfl (Nat.le_of_ble_eq_true rfl) (by omega) (by omega) (by omega) ?_
    rw [ez]
    refine zs_iload_n (pc := 29) dM_puts_29 rfl ?_
    by_cases hlt : v < q (6 + p)
    · rw [if_pos hlt] at hpos2
      refine zn_icmp_le (pc := 30) 65 dM_puts_30 rfl (by omega) (by omega) (fun h9 => absurd h9 (by omega)) (fun _ => ?_)
      refine zs_aload_n (pc := 33) dM_puts_33 rfl ?_
      refine zs_get (pc := 34) dM_puts_34 fM_9 (by first | exact z2_a | exact z2_1) (by rfl) ?_
      refine zs_iload_n (pc := 37) dM_puts_37 rfl ?_
      refine zs_bipush (pc := 38) dM_puts_38 (zi_b 6 (by decide)) ?_
      refine zn_iadd (pc := 40) dM_puts_40 ?_
      refine zs_iload (pc := 41) dM_puts_41 rfl ?_
      refine zn_iadd (pc := 43) dM_puts_43 ?_
      refine zs_aload_n (pc := 44) dM_puts_44 rfl ?_
      refine zs_get (pc := 45) dM_puts_45 fM_9 (by first | exact z2_a | exact z2_1) (by rfl) ?_
      refine zs_iload_n (pc := 48) dM_puts_48 rfl ?_
      refine zs_bipush (pc := 49) dM_puts_49 (zi_b 6 (by decide)) ?_
      refine zn_iadd (pc := 51) dM_puts_51 ?_
      refine zs_iload (pc := 52) dM_puts_52 rfl ?_
      refine zn_iadd (pc := 54) dM_puts_54 ?_
      refine zs_iconst (pc := 55) dM_puts_55 zi_1 ?_
      refine zn_isub (pc := 56) dM_puts_56 (by omega) ?_
      refine zn_iald (pc := 57) dM_puts_57 (by first | exact z2_a | exact z2_1) (by omega) (by first | decide | assumption) ?_
      rw [er]
      refine zn_iast (pc := 58) dM_puts_58 (by first | exact z2_a | exact z2_1) (by omega) (by first | decide | assumption) ?_
      first | rw [z2_G] | rw [z2_q2] | rw [z2_q3] | rw [z2_q4] | rw [z2_q5] | rw [z2_q6] | rw [z2_q9]
      rw [ew]
      refine zn_idec (pc := 59) (ls2 := [_, _, _, _, _]) dM_puts_59 rfl (Nat.le_of_ble_eq_true rfl) rfl ?_
      refine zs_goto (pc := 62) 15 dM_puts_62 rfl ?_
      exact ih (by omega) hpos2
    · rw [if_neg hlt] at hpos2
      refine zn_icmp_le (pc := 30) 65 dM_puts_30 rfl (by omega) (by omega) (fun _ => ?_) (fun h9 => absurd h9 (by omega))
      exact fin (p + 1) hp hpos2
theorem s_M_puts {Γ : zG} {l : Launch} (hl : l.stackTraces = false) {d : Nat} (hd : 2 ≤ d) {h : zH} {n a : Nat} {g : Nat → Nat} {s3 s5 s6 s7 s8 s10 s12 s16 s17 s18 s19 s20 : Int32} {k v : Nat} (hk : k < 20) (h5 : eg g k 5 < 6) (hc : ∀ i, i < eg g k 5 → eg g k (6 + i) < 1000) (hv : v < 1000) : zC Γ l d mM_puts [.ref a, .int (nI k), .int (nI v)] (z2 h a (zAr 0 246 (g)) (zMo a s3 s5 s6 s7 s8 s10 s12 s16 s17 s18 s19 s20)) n 0 0 (zR none (z2 h a (zAr 0 246 (zput g k (zins (eg g k) v))) (zMo a s3 s5 s6 s7 s8 s10 s12 s16 s17 s18 s19 s20)) n) := by
  have h9 := lp_M_puts (Γ := Γ) (l := l) (h := h) (n := n) (a := a) (s3 := s3) (s5 := s5) (s6 := s6) (s7 := s7) (s8 := s8) (s10 := s10) (s12 := s12) (s16 := s16) (s17 := s17) (s18 := s18) (s19 := s19) (s20 := s20) hl (d := d) hd hk h5 hc hv (eg g k 5) (Nat.le_refl _) rfl
  have e : zput g k (zshm (eg g k) (eg g k 5)) = g := by
    have e2 : zshm (eg g k) (eg g k 5) = eg g k := by
      funext j
      unfold zshm
      rw [if_neg (by omega)]
    rw [e2, zput_id]
  rw [e] at h9
  have e5 : g (6 + 12 * k + 5) = eg g k 5 := rfl
  refine zC_of (ls := [some (.ref a), some (.int (nI k)), some (.int (nI v)), none, none]) hl (by decide +kernel) rfl (Nat.le_of_ble_eq_true rfl) rfl ?_
  refine zs_iload_n (pc := 0) dM_puts_0 rfl ?_
  refine zcS1_1 (pc := 1) (d2 := d - 1) (s_M_entryAt hl) dM_puts_1 kM_51 mdM_entryAt msM_entryAt rfl (Nat.le_of_ble_eq_true rfl) (by omega) (by omega) (by omega) ?_
  refine zs_istore_n (pc := 4) (ls2 := [_, _, _, _, _]) dM_puts_4 (Nat.le_of_ble_eq_true rfl) rfl ?_
  refine zs_aload_n (pc := 5) dM_puts_5 rfl ?_
  refine zs_get (pc := 6) dM_puts_6 fM_9 (by first | exact z2_a | exact z2_1) (by rfl) ?_
  refine zs_iload_n (pc := 9) dM_puts_9 rfl ?_
  refine zs_iconst (pc := 10) dM_puts_10 zi_5 ?_
  refine zn_iadd (pc := 11) dM_puts_11 ?_
  refine zn_iald (pc := 12) dM_puts_12 (by first | exact z2_a | exact z2_1) (by omega) (by first | decide | assumption) ?_
  refine zs_istore (pc := 13) (ls2 := [_, _, _, _, _]) dM_puts_13 (Nat.le_of_ble_eq_true rfl) rfl ?_
  exact h9
theorem s_M_entryIt {Γ : zG} {l : Launch} (hl : l.stackTraces = false) {d : Nat} (hd : 1 ≤ d) {h : zH} {n a : Nat} {g : Nat → Nat} {s3 s5 s6 s7 s8 s10 s12 s16 s17 s18 s19 s20 : Int32} {B : Nat} (hI : IG B g) (hB : B < 2 ^ 20) (x : Int32) : zC Γ l d mM_entryIt [.ref a, .int x] (z2 h a (zAr 0 246 (g)) (zMo a s3 s5 s6 s7 s8 s10 s12 s16 s17 s18 s19 s20)) n 0 0 (zR (some (.int (zma (zopAdd g x)))) (z2 h a (zAr 0 246 ((zopAdd g x).2.2)) (zMo a s3 s5 s6 s7 (zmth s8 (zopAdd g x)) s10 s12 s16 s17 s18 s19 s20)) n) := by
  have i0 := hI.1
  have i2 := hI.2.2.1
  unfold zopAdd
  refine zC_of (ls := [some (.ref a), some (.int x), none]) hl (by decide +kernel) rfl (Nat.le_of_ble_eq_true rfl) rfl ?_
  cases hv : zV x 1 9 with
  | false =>
    rw [if_neg (by decide)]
    refine zs_iload_n (pc := 0) dM_entryIt_0 rfl ?_
    refine zs_i2l (pc := 1) dM_entryIt_1 ?_
    refine zs_lconst (pc := 2) (v := 1) dM_entryIt_2 (by decide) ?_
    refine zs_ldc2 (pc := 3) (v := 9) dM_entryIt_3 (zt6 (i := 122) rfl) ?_
    refine zcS1_3 (pc := 6) (d2 := d - 1) (s_M_inV_n hl (by decide) (by decide) hv) dM_entryIt_6 kM_55 mdM_in msM_in rfl (Nat.le_of_ble_eq_true rfl) (by omega) (by omega) (by omega) ?_
    refine zs_if_ne (pc := 9) 18 dM_entryIt_9 rfl (fun h9 => absurd h9 (by decide)) (fun _ => ?_)
    refine zs_aload_n (pc := 12) dM_entryIt_12 rfl ?_
    refine zs_iconst (pc := 13) dM_entryIt_13 zi_1 ?_
    refine zcV1_1 (pc := 14) (d2 := d - 1) (s_M_throwing hl) dM_entryIt_14 kM_90 mdM_throwing miM_throwing mvM_throwing rfl (by exact z2_a) rfl (Nat.le_of_ble_eq_true rfl) (by omega) (by omega) (by omega) ?_
    exact zs_iret (pc := 17) dM_entryIt_17 rfl rfl (by omega) (by omega) (⟨rfl, rfl, rfl⟩)
  | true =>
    rw [if_pos rfl]
    have hv9 := hv
    obtain ⟨v1, v2, v3⟩ := zV_y hv
    generalize x.toInt.toNat = w at v1 v2 v3 ⊢
    subst v3
    by_cases e : g 0 = 20
    · rw [if_pos e]
      refine zs_iload_n (pc := 0) dM_entryIt_0 rfl ?_
      refine zs_i2l (pc := 1) dM_entryIt_1 ?_
      refine zs_lconst (pc := 2) (v := 1) dM_entryIt_2 (by decide) ?_
      refine zs_ldc2 (pc := 3) (v := 9) dM_entryIt_3 (zt6 (i := 122) rfl) ?_
      refine zcS1_3 (pc := 6) (d2 := d - 1) (s_M_inV_y hl (by decide) (by decide) hv9) dM_entryIt_6 kM_55 mdM_in msM_in rfl (Nat.le_of_ble_eq_true rfl) (by omega) (by omega) (by omega) ?_
      refine zs_if_ne (pc := 9) 18 dM_entryIt_9 rfl (fun _ => ?_) (fun h9 => absurd h9 (by decide))
      refine zs_aload_n (pc := 18) dM_entryIt_18 rfl ?_
      refine zs_get (pc := 19) dM_entryIt_19 fM_9 (by first | exact z2_a | exact z2_1) (by rfl) ?_
      refine zs_iconst (pc := 22) dM_entryIt_22 zi_0 ?_
      refine zn_iald (pc := 23) dM_entryIt_23 (by first | exact z2_a | exact z2_1) (by omega) (by first | decide | assumption) ?_
      refine zs_bipush (pc := 24) dM_entryIt_24 (zi_b 20 (by decide)) ?_
      refine zn_icmp_ne (pc := 26) 35 dM_entryIt_26 rfl (by omega) (by omega) (fun h9 => absurd h9 (by omega)) (fun _ => ?_)
      refine zs_aload_n (pc := 29) dM_entryIt_29 rfl ?_
      refine zs_iconst (pc := 30) dM_entryIt_30 zi_2 ?_
      refine zcV1_1 (pc := 31) (d2 := d - 1) (s_M_throwing hl) dM_entryIt_31 kM_90 mdM_throwing miM_throwing mvM_throwing rfl (by exact z2_a) rfl (Nat.le_of_ble_eq_true rfl) (by omega) (by omega) (by omega) ?_
      exact zs_iret (pc := 34) dM_entryIt_34 rfl rfl (by omega) (by omega) (⟨rfl, rfl, rfl⟩)
    · rw [if_neg e]
      refine zs_iload_n (pc := 0) dM_entryIt_0 rfl ?_
      refine zs_i2l (pc := 1) dM_entryIt_1 ?_
      refine zs_lconst (pc := 2) (v := 1) dM_entryIt_2 (by decide) ?_
      refine zs_ldc2 (pc := 3) (v := 9) dM_entryIt_3 (zt6 (i := 122) rfl) ?_
      refine zcS1_3 (pc := 6) (d2 := d - 1) (s_M_inV_y hl (by decide) (by decide) hv9) dM_entryIt_6 kM_55 mdM_in msM_in rfl (Nat.le_of_ble_eq_true rfl) (by omega) (by omega) (by omega) ?_
      refine zs_if_ne (pc := 9) 18 dM_entryIt_9 rfl (fun _ => ?_) (fun h9 => absurd h9 (by decide))
      refine zs_aload_n (pc := 18) dM_entryIt_18 rfl ?_
      refine zs_get (pc := 19) dM_entryIt_19 fM_9 (by first | exact z2_a | exact z2_1) (by rfl) ?_
      refine zs_iconst (pc := 22) dM_entryIt_22 zi_0 ?_
      refine zn_iald (pc := 23) dM_entryIt_23 (by first | exact z2_a | exact z2_1) (by omega) (by first | decide | assumption) ?_
      refine zs_bipush (pc := 24) dM_entryIt_24 (zi_b 20 (by decide)) ?_
      refine zn_icmp_ne (pc := 26) 35 dM_entryIt_26 rfl (by omega) (by omega) (fun _ => ?_) (fun h9 => absurd h9 (by omega))
      refine zs_aload_n (pc := 35) dM_entryIt_35 rfl ?_
      refine zs_get (pc := 36) dM_entryIt_36 fM_9 (by first | exact z2_a | exact z2_1) (by rfl) ?_
      refine zs_iconst (pc := 39) dM_entryIt_39 zi_0 ?_
      refine zn_iald (pc := 40) dM_entryIt_40 (by first | exact z2_a | exact z2_1) (by omega) (by first | decide | assumption) ?_
      refine zcS1_1 (pc := 41) (d2 := d - 1) (s_M_entryAt hl) dM_entryIt_41 kM_51 mdM_entryAt msM_entryAt rfl (Nat.le_of_ble_eq_true rfl) (by omega) (by omega) (by omega) ?_
      refine zs_istore_n (pc := 44) (ls2 := [_, _, _]) dM_entryIt_44 (Nat.le_of_ble_eq_true rfl) rfl ?_
      refine zs_aload_n (pc := 45) dM_entryIt_45 rfl ?_
      refine zs_get (pc := 46) dM_entryIt_46 fM_9 (by first | exact z2_a | exact z2_1) (by rfl) ?_
      refine zs_iload_n (pc := 49) dM_entryIt_49 rfl ?_
      refine zs_aload_n (pc := 50) dM_entryIt_50 rfl ?_
      refine zs_get (pc := 51) dM_entryIt_51 fM_9 (by first | exact z2_a | exact z2_1) (by rfl) ?_
      refine zs_iconst (pc := 54) dM_entryIt_54 zi_1 ?_
      refine zn_iald (pc := 55) dM_entryIt_55 (by first | exact z2_a | exact z2_1) (by omega) (by first | decide | assumption) ?_
      refine zn_iast (pc := 56) dM_entryIt_56 (by first | exact z2_a | exact z2_1) (by omega) (by first | decide | assumption) ?_
      first | rw [z2_G] | rw [z2_q2] | rw [z2_q3] | rw [z2_q4] | rw [z2_q5] | rw [z2_q6] | rw [z2_q9]
      refine zs_aload_n (pc := 57) dM_entryIt_57 rfl ?_
      refine zs_get (pc := 58) dM_entryIt_58 fM_9 (by first | exact z2_a | exact z2_1) (by rfl) ?_
      refine zs_iload_n (pc := 61) dM_entryIt_61 rfl ?_
      refine zs_iconst (pc := 62) dM_entryIt_62 zi_1 ?_
      refine zn_iadd (pc := 63) dM_entryIt_63 ?_
      refine zs_iload_n (pc := 64) dM_entryIt_64 rfl ?_
      refine zn_iast (pc := 65) dM_entryIt_65 (by first | exact z2_a | exact z2_1) (by omega) (by first | decide | assumption) ?_
      first | rw [z2_G] | rw [z2_q2] | rw [z2_q3] | rw [z2_q4] | rw [z2_q5] | rw [z2_q6] | rw [z2_q9]
      refine zs_aload_n (pc := 66) dM_entryIt_66 rfl ?_
      refine zs_get (pc := 67) dM_entryIt_67 fM_9 (by first | exact z2_a | exact z2_1) (by rfl) ?_
      refine zs_iload_n (pc := 70) dM_entryIt_70 rfl ?_
      refine zs_iconst (pc := 71) dM_entryIt_71 zi_4 ?_
      refine zn_iadd (pc := 72) dM_entryIt_72 ?_
      refine zs_aload_n (pc := 73) dM_entryIt_73 rfl ?_
      refine zs_get (pc := 74) dM_entryIt_74 fM_9 (by first | exact z2_a | exact z2_1) (by rfl) ?_
      refine zs_iconst (pc := 77) dM_entryIt_77 zi_2 ?_
      refine zn_iald (pc := 78) dM_entryIt_78 (by first | exact z2_a | exact z2_1) (by omega) (by first | decide | assumption) ?_
      rw [zup_n (by omega), zup_n (by omega)]
      refine zs_iconst (pc := 79) dM_entryIt_79 zi_1 ?_
      refine zn_isub (pc := 80) dM_entryIt_80 (by omega) ?_
      refine zn_iast (pc := 81) dM_entryIt_81 (by first | exact z2_a | exact z2_1) (by omega) (by first | decide | assumption) ?_
      first | rw [z2_G] | rw [z2_q2] | rw [z2_q3] | rw [z2_q4] | rw [z2_q5] | rw [z2_q6] | rw [z2_q9]
      refine zs_aload_n (pc := 82) dM_entryIt_82 rfl ?_
      refine zs_get (pc := 83) dM_entryIt_83 fM_9 (by first | exact z2_a | exact z2_1) (by rfl) ?_
      refine zs_iconst (pc := 86) dM_entryIt_86 zi_0 ?_
      refine zs_dup2 (pc := 87) dM_entryIt_87 rfl rfl ?_
      refine zn_iald (pc := 88) dM_entryIt_88 (by first | exact z2_a | exact z2_1) (by omega) (by first | decide | assumption) ?_
      rw [zup_n (by omega), zup_n (by omega), zup_n (by omega)]
      refine zs_iconst (pc := 89) dM_entryIt_89 zi_1 ?_
      refine zn_iadd (pc := 90) dM_entryIt_90 ?_
      refine zn_iast (pc := 91) dM_entryIt_91 (by first | exact z2_a | exact z2_1) (by omega) (by first | decide | assumption) ?_
      first | rw [z2_G] | rw [z2_q2] | rw [z2_q3] | rw [z2_q4] | rw [z2_q5] | rw [z2_q6] | rw [z2_q9]
      refine zs_aload_n (pc := 92) dM_entryIt_92 rfl ?_
      refine zs_get (pc := 93) dM_entryIt_93 fM_9 (by first | exact z2_a | exact z2_1) (by rfl) ?_
      refine zs_iconst (pc := 96) dM_entryIt_96 zi_1 ?_
      refine zs_dup2 (pc := 97) dM_entryIt_97 rfl rfl ?_
      refine zn_iald (pc := 98) dM_entryIt_98 (by first | exact z2_a | exact z2_1) (by omega) (by first | decide | assumption) ?_
      rw [zup_n (by omega), zup_n (by omega), zup_n (by omega), zup_n (by omega)]
      refine zs_iconst (pc := 99) dM_entryIt_99 zi_1 ?_
      refine zn_iadd (pc := 100) dM_entryIt_100 ?_
      refine zn_iast (pc := 101) dM_entryIt_101 (by first | exact z2_a | exact z2_1) (by omega) (by first | decide | assumption) ?_
      first | rw [z2_G] | rw [z2_q2] | rw [z2_q3] | rw [z2_q4] | rw [z2_q5] | rw [z2_q6] | rw [z2_q9]
      refine zs_aload_n (pc := 102) dM_entryIt_102 rfl ?_
      refine zs_get (pc := 103) dM_entryIt_103 fM_9 (by first | exact z2_a | exact z2_1) (by rfl) ?_
      refine zs_iload_n (pc := 106) dM_entryIt_106 rfl ?_
      refine zn_iald (pc := 107) dM_entryIt_107 (by first | exact z2_a | exact z2_1) (by omega) (by first | decide | assumption) ?_
      have e1 : zup (zup (zup (zup (zup g (6 + 12 * g 0) (g 1)) (6 + 12 * g 0 + 1) w) (6 + 12 * g 0 + 4) (g 2 - 1)) 0 (g 0 + 1)) 1 (g 1 + 1) = zadd g w := by
        funext j
        unfold zup zadd
        (repeat' split) <;> first | rfl | (exfalso; omega) | (congr 1; omega) | omega
      have e2 : zadd g w (6 + 12 * g 0) = g 1 := by
        unfold zadd
        rw [if_neg (by omega), if_neg (by omega), if_pos rfl]
      rw [e1, e2]
      exact zs_iret (pc := 108) dM_entryIt_108 rfl rfl (by omega) (by omega) (⟨rfl, rfl, rfl⟩)

