/-! the model: an object and its arrays -/
def zMo (a : Nat) (s3 s5 s6 s7 s8 s10 s12 s16 s17 s18 s19 s20 : Int32) : zE := .inr (8, [.ref (a + 1), .ref (a + 2), .ref (a + 3), .int s3, .ref (a + 4), .int s5, .int s6, .int s7, .int s8, .ref (a + 5), .int s10, .ref (a + 6), .int s12, .ref (a + 7), .ref (a + 8), .ref (a + 9), .int s16, .int s17, .int s18, .int s19, .int s20])
def z2 (h : zH) (a : Nat) (G O : zE) : zH := zu (zu h (a + 1) G) a O
theorem z2_a {h : zH} {a : Nat} {G O : zE} : z2 h a G O a = some O := zu_s
theorem z2_1 {h : zH} {a : Nat} {G O : zE} : z2 h a G O (a + 1) = some G := by
  unfold z2
  rw [zu_n (by omega)]
  exact zu_s
theorem z2_n {h : zH} {a q : Nat} {G O : zE} (h1 : q ≠ a) (h2 : q ≠ a + 1) : z2 h a G O q = h q := by
  unfold z2
  rw [zu_n h1, zu_n h2]
theorem z2_O {h : zH} {a : Nat} {G O O2 : zE} : zu (z2 h a G O) a O2 = z2 h a G O2 := by
  unfold z2
  rw [zu_zu]
theorem z2_G {h : zH} {a : Nat} {G O G2 : zE} : zu (z2 h a G O) (a + 1) G2 = z2 h a G2 O := by
  unfold z2
  rw [zu_cm (a := a) (b := a + 1) (by omega), zu_zu]
theorem z2_q {h : zH} {a q : Nat} {G O E : zE} (h1 : q ≠ a) (h2 : q ≠ a + 1) : zu (z2 h a G O) q E = z2 (zu h q E) a G O := by
  unfold z2
  rw [zu_cm (a := a) (b := q) (fun e => h1 e.symm), zu_cm (a := a + 1) (b := q) (fun e => h2 e.symm)]
theorem z2_q2 {h : zH} {a : Nat} {G O E : zE} : zu (z2 h a G O) (a + 2) E = z2 (zu h (a + 2) E) a G O := z2_q (by omega) (by omega)
theorem z2_q3 {h : zH} {a : Nat} {G O E : zE} : zu (z2 h a G O) (a + 3) E = z2 (zu h (a + 3) E) a G O := z2_q (by omega) (by omega)
theorem z2_q4 {h : zH} {a : Nat} {G O E : zE} : zu (z2 h a G O) (a + 4) E = z2 (zu h (a + 4) E) a G O := z2_q (by omega) (by omega)
theorem z2_q5 {h : zH} {a : Nat} {G O E : zE} : zu (z2 h a G O) (a + 5) E = z2 (zu h (a + 5) E) a G O := z2_q (by omega) (by omega)
theorem z2_q6 {h : zH} {a : Nat} {G O E : zE} : zu (z2 h a G O) (a + 6) E = z2 (zu h (a + 6) E) a G O := z2_q (by omega) (by omega)
theorem z2_q9 {h : zH} {a : Nat} {G O E : zE} : zu (z2 h a G O) (a + 9) E = z2 (zu h (a + 9) E) a G O := z2_q (by omega) (by omega)
theorem z2_id {h : zH} {a : Nat} {G O : zE} (h0 : h a = some O) (h1 : h (a + 1) = some G) : z2 h a G O = h := by
  unfold z2
  rw [zu_id h1, zu_id h0]
theorem s_M_throwing {Γ : zG} {l : Launch} (hl : l.stackTraces = false) {d : Nat} {h : zH} {n a : Nat} {g : Nat → Nat} {s3 s5 s6 s7 s8 s10 s12 s16 s17 s18 s19 s20 : Int32} {t : Int32} : zC Γ l d mM_throwing [.ref a, .int t] (z2 h a (zAr 0 246 (g)) (zMo a s3 s5 s6 s7 s8 s10 s12 s16 s17 s18 s19 s20)) n 0 0 (zR (some (.int (-1))) (z2 h a (zAr 0 246 (g)) (zMo a s3 s5 s6 s7 t s10 s12 s16 s17 s18 s19 s20)) n) := by
  refine zC_of (ls := [some (.ref a), some (.int t)]) hl (by decide +kernel) rfl (Nat.le_of_ble_eq_true rfl) rfl ?_
  refine zs_aload_n (pc := 0) dM_throwing_0 rfl ?_
  refine zs_iload_n (pc := 1) dM_throwing_1 rfl ?_
  refine zs_put (pc := 2) (fs2 := [_, _, _, _, _, _, _, _, _, _, _, _, _, _, _, _, _, _, _, _, _]) dM_throwing_2 fM_45 (by first | exact z2_a | exact z2_1) (by rfl) (by rfl) (by exact Nat.le_of_ble_eq_true rfl) (by rfl) ?_
  rw [z2_O]
  refine zs_iconst (pc := 5) dM_throwing_5 zi_m1 ?_
  exact zs_iret (pc := 6) dM_throwing_6 rfl rfl (by omega) (by omega) (⟨rfl, rfl, rfl⟩)
theorem s_M_in {Γ : zG} {l : Launch} (hl : l.stackTraces = false) {d : Nat} {h : zH} {n : Nat} {v lo hi : Int64} : zC Γ l d mM_in [.long v, .long lo, .long hi] h n 0 0 (zR (some (.int (nI (zb (decide (lo.toInt ≤ v.toInt ∧ v.toInt ≤ hi.toInt)))))) h n) := by
  refine zC_of (ls := [some (.long v), none, some (.long lo), none, some (.long hi), none]) hl (by decide +kernel) rfl (Nat.le_of_ble_eq_true rfl) rfl ?_
  refine zs_lload_n (pc := 0) dM_in_0 rfl ?_
  refine zs_lload_n (pc := 1) dM_in_1 rfl ?_
  refine zs_lcmp (pc := 2) dM_in_2 ?_
  refine zs_if_lt (pc := 3) 17 dM_in_3 rfl (fun h1 => ?_) (fun h1 => ?_)
  · have e : ¬ (lo.toInt ≤ v.toInt ∧ v.toInt ≤ hi.toInt) := fun q => by
      have := Int64.lt_iff_toInt_lt.mp ((lg_cmp_lt v lo).mp h1)
      omega
    rw [decide_eq_false e]
    refine zs_iconst (pc := 17) dM_in_17 zi_0 ?_
    exact zs_iret (pc := 18) dM_in_18 rfl rfl (by omega) (by omega) (⟨rfl, rfl, rfl⟩)
  · have e1 : ¬ v.toInt < lo.toInt := fun q => h1 ((lg_cmp_lt v lo).mpr (Int64.lt_iff_toInt_lt.mpr q))
    refine zs_lload_n (pc := 6) dM_in_6 rfl ?_
    refine zs_lload (pc := 7) dM_in_7 rfl ?_
    refine zs_lcmp (pc := 9) dM_in_9 ?_
    refine zs_if_gt (pc := 10) 17 dM_in_10 rfl (fun h2 => ?_) (fun h2 => ?_)
    · have e : ¬ (lo.toInt ≤ v.toInt ∧ v.toInt ≤ hi.toInt) := fun q => by
        have := Int64.lt_iff_toInt_lt.mp ((lg_cmp_gt v hi).mp h2)
        omega
      rw [decide_eq_false e]
      refine zs_iconst (pc := 17) dM_in_17 zi_0 ?_
      exact zs_iret (pc := 18) dM_in_18 rfl rfl (by omega) (by omega) (⟨rfl, rfl, rfl⟩)
    · have e2 : ¬ hi.toInt < v.toInt := fun q => h2 ((lg_cmp_gt v hi).mpr (Int64.lt_iff_toInt_lt.mpr q))
      rw [decide_eq_true (by omega : lo.toInt ≤ v.toInt ∧ v.toInt ≤ hi.toInt)]
      refine zs_iconst (pc := 13) dM_in_13 zi_1 ?_
      refine zs_goto (pc := 14) 18 dM_in_14 rfl ?_
      exact zs_iret (pc := 18) dM_in_18 rfl rfl (by omega) (by omega) (⟨rfl, rfl, rfl⟩)
theorem s_M_inI {Γ : zG} {l : Launch} (hl : l.stackTraces = false) {d : Nat} {h : zH} {n : Nat} {x : Int32} {lo hi : Int64} {a b : Int} (ha : lo.toInt = a) (hb : hi.toInt = b) : zC Γ l d mM_in [.long x.toInt64, .long lo, .long hi] h n 0 0 (zR (some (.int (nI (zb (decide (a ≤ x.toInt ∧ x.toInt ≤ b)))))) h n) := by
  have h9 := s_M_in (Γ := Γ) (d := d) (h := h) (n := n) (v := x.toInt64) (lo := lo) (hi := hi) hl
  rw [ha, hb, Int32.toInt_toInt64] at h9
  exact h9
theorem nI_64 {k : Nat} (h : k < 2 ^ 31) : ((nI k).toInt64).toInt = (k : Int) := by rw [Int32.toInt_toInt64, nI_toInt h]
theorem s_M_entryAt {Γ : zG} {l : Launch} (hl : l.stackTraces = false) {d : Nat} {h : zH} {n k : Nat} : zC Γ l d mM_entryAt [.int (nI k)] h n 0 0 (zR (some (.int (nI (6 + 12 * k)))) h n) := by
  refine zC_of (ls := [some (.int (nI k))]) hl (by decide +kernel) rfl (Nat.le_of_ble_eq_true rfl) rfl ?_
  refine zs_bipush (pc := 0) dM_entryAt_0 (zi_b 6 (by decide)) ?_
  refine zs_bipush (pc := 2) dM_entryAt_2 (zi_b 12 (by decide)) ?_
  refine zs_iload_n (pc := 4) dM_entryAt_4 rfl ?_
  refine zn_imul (pc := 5) dM_entryAt_5 ?_
  refine zn_iadd (pc := 6) dM_entryAt_6 ?_
  exact zs_iret (pc := 7) dM_entryAt_7 rfl rfl (by omega) (by omega) (⟨rfl, rfl, rfl⟩)
theorem lp_M_power {Γ : zG} {l : Launch} (hl : l.stackTraces = false) {d : Nat} {h : zH} {n dn : Nat} (h1 : dn ≤ 3) : ∀ i j, i + j = dn → Z Γ l mM_power d 0 0 (zFin Γ (zR (some (.int (nI (10 ^ dn)))) h n) 0 0) 4 [some (.int (nI dn)), some (.int (nI (10 ^ j))), some (.int (nI j))] [] h n 0 0 := by
  intro i
  induction i with
  | zero =>
    intro j hj
    obtain rfl : j = dn := by omega
    refine zs_iload_n (pc := 4) dM_power_4 rfl ?_
    refine zs_iload_n (pc := 5) dM_power_5 rfl ?_
    refine zn_icmp_ge (pc := 6) 20 dM_power_6 rfl (by omega) (by omega) (fun _ => ?_) (fun h9 => absurd h9 (by omega))
    refine zs_iload_n (pc := 20) dM_power_20 rfl ?_
    exact zs_iret (pc := 21) dM_power_21 rfl rfl (by omega) (by omega) (⟨rfl, rfl, rfl⟩)
  | succ i ih =>
    intro j hj
    have hz := ih (j + 1) (by omega)
    rw [Nat.pow_succ] at hz
    refine zs_iload_n (pc := 4) dM_power_4 rfl ?_
    refine zs_iload_n (pc := 5) dM_power_5 rfl ?_
    refine zn_icmp_ge (pc := 6) 20 dM_power_6 rfl (by omega) (by omega) (fun h9 => absurd h9 (by omega)) (fun _ => ?_)
    refine zs_iload_n (pc := 9) dM_power_9 rfl ?_
    refine zs_bipush (pc := 10) dM_power_10 (zi_b 10 (by decide)) ?_
    refine zn_imul (pc := 12) dM_power_12 ?_
    refine zs_istore_n (pc := 13) (ls2 := [_, _, _]) dM_power_13 (Nat.le_of_ble_eq_true rfl) rfl ?_
    refine zn_iinc (pc := 14) (ls2 := [_, _, _]) dM_power_14 rfl (Nat.le_of_ble_eq_true rfl) rfl ?_
    refine zs_goto (pc := 17) 4 dM_power_17 rfl ?_
    exact hz
theorem s_M_power {Γ : zG} {l : Launch} (hl : l.stackTraces = false) {d : Nat} {h : zH} {n dn : Nat} (h1 : dn ≤ 3) : zC Γ l d mM_power [.int (nI dn)] h n 0 0 (zR (some (.int (nI (10 ^ dn)))) h n) := by
  refine zC_of (ls := [some (.int (nI dn)), none, none]) hl (by decide +kernel) rfl (Nat.le_of_ble_eq_true rfl) rfl ?_
  refine zs_iconst (pc := 0) dM_power_0 zi_1 ?_
  refine zs_istore_n (pc := 1) (ls2 := [_, _, _]) dM_power_1 (Nat.le_of_ble_eq_true rfl) rfl ?_
  refine zs_iconst (pc := 2) dM_power_2 zi_0 ?_
  refine zs_istore_n (pc := 3) (ls2 := [_, _, _]) dM_power_3 (Nat.le_of_ble_eq_true rfl) rfl ?_
  exact lp_M_power hl h1 dn 0 rfl
theorem s_M_isPrefix_y {Γ : zG} {l : Launch} (hl : l.stackTraces = false) {d : Nat} (hd : 1 ≤ d) {h : zH} {n m dn v : Nat} {x y : Int32} (hp : zPf x y dn v) (hm : dn ≤ m) (hm3 : m ≤ 3) : zC Γ l d mM_isPrefix [.int x, .int y, .int (nI m)] h n 0 0 (zR (some (.int 1)) h n) := by
  obtain ⟨rfl, rfl, h1, h2⟩ := hp
  have h3 := z10 h1
  have zt : zb true = 1 := rfl
  have zf : zb false = 0 := rfl
  refine zC_of (ls := [some (.int (nI dn)), some (.int (nI v)), some (.int (nI m))]) hl (by decide +kernel) rfl (Nat.le_of_ble_eq_true rfl) rfl ?_
  refine zs_iload_n (pc := 0) dM_isPrefix_0 rfl ?_
  refine zs_i2l (pc := 1) dM_isPrefix_1 ?_
  refine zs_lconst (pc := 2) (v := 0) dM_isPrefix_2 (by decide) ?_
  refine zs_iload_n (pc := 3) dM_isPrefix_3 rfl ?_
  refine zs_i2l (pc := 4) dM_isPrefix_4 ?_
  refine zcS1_3 (pc := 5) (d2 := d - 1) (s_M_inI hl (a := 0) (b := (m : Int)) (by decide) (nI_64 (by omega))) dM_isPrefix_5 kM_55 mdM_in msM_in rfl (Nat.le_of_ble_eq_true rfl) (by omega) (by omega) (by omega) ?_
  rw [nI_toInt (by omega), decide_eq_true (by omega : (0 : Int) ≤ (dn : Int) ∧ (dn : Int) ≤ (m : Int))]
  refine zn_if_eq (pc := 8) 31 dM_isPrefix_8 rfl (by omega) (fun h9 => absurd h9 (by decide)) (fun _ => ?_)
  refine zs_iload_n (pc := 11) dM_isPrefix_11 rfl ?_
  refine zs_i2l (pc := 12) dM_isPrefix_12 ?_
  refine zs_lconst (pc := 13) (v := 0) dM_isPrefix_13 (by decide) ?_
  refine zs_iload_n (pc := 14) dM_isPrefix_14 rfl ?_
  refine zcS1_1 (pc := 15) (d2 := d - 1) (s_M_power hl h1) dM_isPrefix_15 kM_59 mdM_power msM_power rfl (Nat.le_of_ble_eq_true rfl) (by omega) (by omega) (by omega) ?_
  refine zs_iconst (pc := 18) dM_isPrefix_18 zi_1 ?_
  refine zn_isub (pc := 19) dM_isPrefix_19 (by omega) ?_
  refine zs_i2l (pc := 20) dM_isPrefix_20 ?_
  refine zcS1_3 (pc := 21) (d2 := d - 1) (s_M_inI hl (a := 0) (b := ((10 ^ dn - 1 : Nat) : Int)) (by decide) (nI_64 (by omega))) dM_isPrefix_21 kM_55 mdM_in msM_in rfl (Nat.le_of_ble_eq_true rfl) (by omega) (by omega) (by omega) ?_
  rw [nI_toInt (by omega), decide_eq_true (by omega : (0 : Int) ≤ (v : Int) ∧ (v : Int) ≤ ((10 ^ dn - 1 : Nat) : Int))]
  refine zn_if_eq (pc := 24) 31 dM_isPrefix_24 rfl (by omega) (fun h9 => absurd h9 (by decide)) (fun _ => ?_)
  refine zs_iconst (pc := 27) dM_isPrefix_27 zi_1 ?_
  refine zs_goto (pc := 28) 32 dM_isPrefix_28 rfl ?_
  exact zs_iret (pc := 32) dM_isPrefix_32 rfl rfl (by omega) (by omega) (⟨rfl, rfl, rfl⟩)
theorem s_M_isPrefix_n {Γ : zG} {l : Launch} (hl : l.stackTraces = false) {d : Nat} (hd : 1 ≤ d) {h : zH} {n m : Nat} {x y : Int32} (hp : ¬ ∃ dn v, zPf x y dn v ∧ dn ≤ m) (hm3 : m ≤ 3) : zC Γ l d mM_isPrefix [.int x, .int y, .int (nI m)] h n 0 0 (zR (some (.int 0)) h n) := by
  have zt : zb true = 1 := rfl
  have zf : zb false = 0 := rfl
  refine zC_of (ls := [some (.int x), some (.int y), some (.int (nI m))]) hl (by decide +kernel) rfl (Nat.le_of_ble_eq_true rfl) rfl ?_
  refine zs_iload_n (pc := 0) dM_isPrefix_0 rfl ?_
  refine zs_i2l (pc := 1) dM_isPrefix_1 ?_
  refine zs_lconst (pc := 2) (v := 0) dM_isPrefix_2 (by decide) ?_
  refine zs_iload_n (pc := 3) dM_isPrefix_3 rfl ?_
  refine zs_i2l (pc := 4) dM_isPrefix_4 ?_
  refine zcS1_3 (pc := 5) (d2 := d - 1) (s_M_inI hl (a := 0) (b := (m : Int)) (by decide) (nI_64 (by omega))) dM_isPrefix_5 kM_55 mdM_in msM_in rfl (Nat.le_of_ble_eq_true rfl) (by omega) (by omega) (by omega) ?_
  by_cases e : (0 : Int) ≤ x.toInt ∧ x.toInt ≤ (m : Int)
  · rw [decide_eq_true e]
    have hx := z_nI e.1
    have hd3 : x.toInt.toNat ≤ m := by omega
    generalize x.toInt.toNat = dn at hx hd3
    subst hx
    have h3 := z10 (k := dn) (by omega)
    have e2 : ¬ ((0 : Int) ≤ y.toInt ∧ y.toInt ≤ ((10 ^ dn - 1 : Nat) : Int)) := fun q => hp ⟨dn, y.toInt.toNat, ⟨rfl, z_nI q.1, by omega, by omega⟩, hd3⟩
    refine zn_if_eq (pc := 8) 31 dM_isPrefix_8 rfl (by omega) (fun h9 => absurd h9 (by decide)) (fun _ => ?_)
    refine zs_iload_n (pc := 11) dM_isPrefix_11 rfl ?_
    refine zs_i2l (pc := 12) dM_isPrefix_12 ?_
    refine zs_lconst (pc := 13) (v := 0) dM_isPrefix_13 (by decide) ?_
    refine zs_iload_n (pc := 14) dM_isPrefix_14 rfl ?_
    refine zcS1_1 (pc := 15) (d2 := d - 1) (s_M_power hl (by omega)) dM_isPrefix_15 kM_59 mdM_power msM_power rfl (Nat.le_of_ble_eq_true rfl) (by omega) (by omega) (by omega) ?_
    refine zs_iconst (pc := 18) dM_isPrefix_18 zi_1 ?_
    refine zn_isub (pc := 19) dM_isPrefix_19 (by omega) ?_
    refine zs_i2l (pc := 20) dM_isPrefix_20 ?_
    refine zcS1_3 (pc := 21) (d2 := d - 1) (s_M_inI hl (a := 0) (b := ((10 ^ dn - 1 : Nat) : Int)) (by decide) (nI_64 (by omega))) dM_isPrefix_21 kM_55 mdM_in msM_in rfl (Nat.le_of_ble_eq_true rfl) (by omega) (by omega) (by omega) ?_
    rw [decide_eq_false e2]
    refine zn_if_eq (pc := 24) 31 dM_isPrefix_24 rfl (by omega) (fun _ => ?_) (fun h9 => absurd h9 (by decide))
    refine zs_iconst (pc := 31) dM_isPrefix_31 zi_0 ?_
    exact zs_iret (pc := 32) dM_isPrefix_32 rfl rfl (by omega) (by omega) (⟨rfl, rfl, rfl⟩)
  · rw [decide_eq_false e]
    refine zn_if_eq (pc := 8) 31 dM_isPrefix_8 rfl (by omega) (fun _ => ?_) (fun h9 => absurd h9 (by decide))
    refine zs_iconst (pc := 31) dM_isPrefix_31 zi_0 ?_
    exact zs_iret (pc := 32) dM_isPrefix_32 rfl rfl (by omega) (by omega) (⟨rfl, rfl, rfl⟩)
theorem s_M_has {Γ : zG} {l : Launch} (hl : l.stackTraces = false) {d : Nat} (hd : 1 ≤ d) {h : zH} {n c dn v : Nat} (hc : c < 2 ^ 31) (h1 : dn ≤ 3) (hv : v < 2 ^ 31) : zC Γ l d mM_has [.int (nI c), .int (nI dn), .int (nI v)] h n 0 0 (zR (some (.int (nI (zb (zhas c dn v))))) h n) := by
  have h3 := z10 (k := 3 - dn) (by omega)
  have e2 : c / 10 ^ (3 - dn) ≤ c := Nat.div_le_self _ _
  refine zC_of (ls := [some (.int (nI c)), some (.int (nI dn)), some (.int (nI v))]) hl (by decide +kernel) rfl (Nat.le_of_ble_eq_true rfl) rfl ?_
  refine zs_iload_n (pc := 0) dM_has_0 rfl ?_
  refine zs_iconst (pc := 1) dM_has_1 zi_3 ?_
  refine zs_iload_n (pc := 2) dM_has_2 rfl ?_
  refine zn_isub (pc := 3) dM_has_3 (by omega) ?_
  refine zcS1_1 (pc := 4) (d2 := d - 1) (s_M_power hl (by omega)) dM_has_4 kM_59 mdM_power msM_power rfl (Nat.le_of_ble_eq_true rfl) (by omega) (by omega) (by omega) ?_
  refine zn_idiv (pc := 7) dM_has_7 (by omega) (by omega) (by omega) ?_
  refine zs_iload_n (pc := 8) dM_has_8 rfl ?_
  refine zn_icmp_ne (pc := 9) 16 dM_has_9 rfl (by omega) (by omega) (fun hb => ?_) (fun hb => ?_)
  · have e : zhas c dn v = false := by simp [zhas, hb]
    rw [e]
    refine zs_iconst (pc := 16) dM_has_16 zi_0 ?_
    exact zs_iret (pc := 17) dM_has_17 rfl rfl (by omega) (by omega) (⟨rfl, rfl, rfl⟩)
  · have e : zhas c dn v = true := by simp [zhas, hb]
    rw [e]
    refine zs_iconst (pc := 12) dM_has_12 zi_1 ?_
    refine zs_goto (pc := 13) 17 dM_has_13 rfl ?_
    exact zs_iret (pc := 17) dM_has_17 rfl rfl (by omega) (by omega) (⟨rfl, rfl, rfl⟩)
theorem lp_M_find {Γ : zG} {l : Launch} (hl : l.stackTraces = false) {d : Nat} (hd : 1 ≤ d) {h : zH} {n a : Nat} {g : Nat → Nat} {s3 s5 s6 s7 s8 s10 s12 s16 s17 s18 s19 s20 : Int32} {x : Int32} (hg0 : g 0 ≤ 20) {k : Nat} {FN : List Frame → Array Value → State → State → Prop} (hk : k ≤ g 0) (hne : ∀ i, i < k → nI (eg g i 0) ≠ x) (K : Z Γ l mM_find d 0 0 FN 2 [some (.ref a), some (.int x), some (.int (nI k))] [] (z2 h a (zAr 0 246 (g)) (zMo a s3 s5 s6 s7 s8 s10 s12 s16 s17 s18 s19 s20)) n 0 0) : ∀ i j, i + j = k → Z Γ l mM_find d 0 0 FN 2 [some (.ref a), some (.int x), some (.int (nI j))] [] (z2 h a (zAr 0 246 (g)) (zMo a s3 s5 s6 s7 s8 s10 s12 s16 s17 s18 s19 s20)) n 0 0 := by
  intro i
  induction i with
  | zero =>
    intro j hj
    obtain rfl : j = k := by omega
    exact K
  | succ i ih =>
    intro j hj
    refine zs_iload_n (pc := 2) dM_find_2 rfl ?_
    refine zs_aload_n (pc := 3) dM_find_3 rfl ?_
    refine zs_get (pc := 4) dM_find_4 fM_9 (by first | exact z2_a | exact z2_1) (by rfl) ?_
    refine zs_iconst (pc := 7) dM_find_7 zi_0 ?_
    refine zn_iald (pc := 8) dM_find_8 (by first | exact z2_a | exact z2_1) (by omega) (by first | decide | assumption) ?_
    refine zn_icmp_ge (pc := 9) 33 dM_find_9 rfl (by omega) (by omega) (fun h9 => absurd h9 (by omega)) (fun _ => ?_)
    refine zs_aload_n (pc := 12) dM_find_12 rfl ?_
    refine zs_get (pc := 13) dM_find_13 fM_9 (by first | exact z2_a | exact z2_1) (by rfl) ?_
    refine zs_iload_n (pc := 16) dM_find_16 rfl ?_
    refine zcS1_1 (pc := 17) (d2 := d - 1) (s_M_entryAt hl) dM_find_17 kM_51 mdM_entryAt msM_entryAt rfl (Nat.le_of_ble_eq_true rfl) (by omega) (by omega) (by omega) ?_
    refine zn_iald (pc := 20) dM_find_20 (by first | exact z2_a | exact z2_1) (by omega) (by first | decide | assumption) ?_
    refine zs_iload_n (pc := 21) dM_find_21 rfl ?_
    refine zs_icmp_ne (pc := 22) 27 dM_find_22 rfl (fun _ => ?_) (fun h9 => absurd h9 (hne j (by omega)))
    refine zn_iinc (pc := 27) (ls2 := [_, _, _]) dM_find_27 rfl (Nat.le_of_ble_eq_true rfl) rfl ?_
    refine zs_goto (pc := 30) 2 dM_find_30 rfl ?_
    exact ih (j + 1) (by omega)
theorem s_M_find_y {Γ : zG} {l : Launch} (hl : l.stackTraces = false) {d : Nat} (hd : 1 ≤ d) {h : zH} {n a : Nat} {g : Nat → Nat} {s3 s5 s6 s7 s8 s10 s12 s16 s17 s18 s19 s20 : Int32} {x : Int32} {k : Nat} (hg0 : g 0 ≤ 20) (f1 : k < g 0) (f2 : nI (eg g k 0) = x) (f3 : ∀ i, i < k → nI (eg g i 0) ≠ x) : zC Γ l d mM_find [.ref a, .int x] (z2 h a (zAr 0 246 (g)) (zMo a s3 s5 s6 s7 s8 s10 s12 s16 s17 s18 s19 s20)) n 0 0 (zR (some (.int (nI k))) (z2 h a (zAr 0 246 (g)) (zMo a s3 s5 s6 s7 s8 s10 s12 s16 s17 s18 s19 s20)) n) := by
  refine zC_of (ls := [some (.ref a), some (.int x), none]) hl (by decide +kernel) rfl (Nat.le_of_ble_eq_true rfl) rfl ?_
  refine zs_iconst (pc := 0) dM_find_0 zi_0 ?_
  refine zs_istore_n (pc := 1) (ls2 := [_, _, _]) dM_find_1 (Nat.le_of_ble_eq_true rfl) rfl ?_
  refine lp_M_find hl hd hg0 (Nat.le_of_lt f1) f3 ?_ k 0 rfl
  refine zs_iload_n (pc := 2) dM_find_2 rfl ?_
  refine zs_aload_n (pc := 3) dM_find_3 rfl ?_
  refine zs_get (pc := 4) dM_find_4 fM_9 (by first | exact z2_a | exact z2_1) (by rfl) ?_
  refine zs_iconst (pc := 7) dM_find_7 zi_0 ?_
  refine zn_iald (pc := 8) dM_find_8 (by first | exact z2_a | exact z2_1) (by omega) (by first | decide | assumption) ?_
  refine zn_icmp_ge (pc := 9) 33 dM_find_9 rfl (by omega) (by omega) (fun h9 => absurd h9 (by omega)) (fun _ => ?_)
  refine zs_aload_n (pc := 12) dM_find_12 rfl ?_
  refine zs_get (pc := 13) dM_find_13 fM_9 (by first | exact z2_a | exact z2_1) (by rfl) ?_
  refine zs_iload_n (pc := 16) dM_find_16 rfl ?_
  refine zcS1_1 (pc := 17) (d2 := d - 1) (s_M_entryAt hl) dM_find_17 kM_51 mdM_entryAt msM_entryAt rfl (Nat.le_of_ble_eq_true rfl) (by omega) (by omega) (by omega) ?_
  refine zn_iald (pc := 20) dM_find_20 (by first | exact z2_a | exact z2_1) (by omega) (by first | decide | assumption) ?_
  refine zs_iload_n (pc := 21) dM_find_21 rfl ?_
  refine zs_icmp_ne (pc := 22) 27 dM_find_22 rfl (fun h9 => absurd h9 (fun q => q f2)) (fun _ => ?_)
  refine zs_iload_n (pc := 25) dM_find_25 rfl ?_
  exact zs_iret (pc := 26) dM_find_26 rfl rfl (by omega) (by omega) (⟨rfl, rfl, rfl⟩)
theorem s_M_find_n {Γ : zG} {l : Launch} (hl : l.stackTraces = false) {d : Nat} (hd : 1 ≤ d) {h : zH} {n a : Nat} {g : Nat → Nat} {s3 s5 s6 s7 s8 s10 s12 s16 s17 s18 s19 s20 : Int32} {x : Int32} (hg0 : g 0 ≤ 20) (hx : zHas g x = false) : zC Γ l d mM_find [.ref a, .int x] (z2 h a (zAr 0 246 (g)) (zMo a s3 s5 s6 s7 s8 s10 s12 s16 s17 s18 s19 s20)) n 0 0 (zR (some (.int (-1))) (z2 h a (zAr 0 246 (g)) (zMo a s3 s5 s6 s7 s8 s10 s12 s16 s17 s18 s19 s20)) n) := by
  refine zC_of (ls := [some (.ref a), some (.int x), none]) hl (by decide +kernel) rfl (Nat.le_of_ble_eq_true rfl) rfl ?_
  refine zs_iconst (pc := 0) dM_find_0 zi_0 ?_
  refine zs_istore_n (pc := 1) (ls2 := [_, _, _]) dM_find_1 (Nat.le_of_ble_eq_true rfl) rfl ?_
  refine lp_M_find hl hd hg0 (Nat.le_refl _) (zHas_n hx) ?_ (g 0) 0 rfl
  refine zs_iload_n (pc := 2) dM_find_2 rfl ?_
  refine zs_aload_n (pc := 3) dM_find_3 rfl ?_
  refine zs_get (pc := 4) dM_find_4 fM_9 (by first | exact z2_a | exact z2_1) (by rfl) ?_
  refine zs_iconst (pc := 7) dM_find_7 zi_0 ?_
  refine zn_iald (pc := 8) dM_find_8 (by first | exact z2_a | exact z2_1) (by omega) (by first | decide | assumption) ?_
  refine zn_icmp_ge (pc := 9) 33 dM_find_9 rfl (by omega) (by omega) (fun _ => ?_) (fun h9 => absurd h9 (by omega))
  refine zs_iconst (pc := 33) dM_find_33 zi_m1 ?_
  exact zs_iret (pc := 34) dM_find_34 rfl rfl (by omega) (by omega) (⟨rfl, rfl, rfl⟩)
theorem s_M_codeOf {Γ : zG} {l : Launch} (hl : l.stackTraces = false) {d : Nat} (hd : 1 ≤ d) {h : zH} {n a : Nat} {g : Nat → Nat} {s3 s5 s6 s7 s8 s10 s12 s16 s17 s18 s19 s20 : Int32} {k i : Nat} (hk : k < 20) (hi : i < 6) : zC Γ l d mM_codeOf [.ref a, .int (nI k), .int (nI i)] (z2 h a (zAr 0 246 (g)) (zMo a s3 s5 s6 s7 s8 s10 s12 s16 s17 s18 s19 s20)) n 0 0 (zR (some (.int (nI (eg g k (6 + i))))) (z2 h a (zAr 0 246 (g)) (zMo a s3 s5 s6 s7 s8 s10 s12 s16 s17 s18 s19 s20)) n) := by
  refine zC_of (ls := [some (.ref a), some (.int (nI k)), some (.int (nI i))]) hl (by decide +kernel) rfl (Nat.le_of_ble_eq_true rfl) rfl ?_
  refine zs_aload_n (pc := 0) dM_codeOf_0 rfl ?_
  refine zs_get (pc := 1) dM_codeOf_1 fM_9 (by first | exact z2_a | exact z2_1) (by rfl) ?_
  refine zs_iload_n (pc := 4) dM_codeOf_4 rfl ?_
  refine zcS1_1 (pc := 5) (d2 := d - 1) (s_M_entryAt hl) dM_codeOf_5 kM_51 mdM_entryAt msM_entryAt rfl (Nat.le_of_ble_eq_true rfl) (by omega) (by omega) (by omega) ?_
  refine zs_bipush (pc := 8) dM_codeOf_8 (zi_b 6 (by decide)) ?_
  refine zn_iadd (pc := 10) dM_codeOf_10 ?_
  refine zs_iload_n (pc := 11) dM_codeOf_11 rfl ?_
  refine zn_iadd (pc := 12) dM_codeOf_12 ?_
  refine zn_iald (pc := 13) dM_codeOf_13 (by first | exact z2_a | exact z2_1) (by omega) (by first | decide | assumption) ?_
  have e : g (6 + 12 * k + 6 + i) = eg g k (6 + i) := by
    unfold eg
    congr 1
    omega
  rw [e]
  exact zs_iret (pc := 14) dM_codeOf_14 rfl rfl (by omega) (by omega) (⟨rfl, rfl, rfl⟩)
theorem lp_M_many {Γ : zG} {l : Launch} (hl : l.stackTraces = false) {d : Nat} (hd : 2 ≤ d) {h : zH} {n a : Nat} {g : Nat → Nat} {s3 s5 s6 s7 s8 s10 s12 s16 s17 s18 s19 s20 : Int32} {k dn v : Nat} (hk : k < 20) (h5 : eg g k 5 ≤ 6) (hc : ∀ i, i < eg g k 5 → eg g k (6 + i) < 1000) (h1 : dn ≤ 3) (hv : v < 2 ^ 31) : ∀ i j, i + j = eg g k 5 → Z Γ l mM_many d 0 0 (zFin Γ (zR (some (.int (nI (zmany (eg g k) dn v)))) (z2 h a (zAr 0 246 (g)) (zMo a s3 s5 s6 s7 s8 s10 s12 s16 s17 s18 s19 s20)) n) 0 0) 6 [some (.ref a), some (.int (nI k)), some (.int (nI dn)), some (.int (nI v)), some (.int (nI (zcnt (fun i => zhas (eg g k (6 + i)) dn v) j))), some (.int (nI j))] [] (z2 h a (zAr 0 246 (g)) (zMo a s3 s5 s6 s7 s8 s10 s12 s16 s17 s18 s19 s20)) n 0 0 := by
  have e5 : g (6 + 12 * k + 5) = eg g k 5 := rfl
  intro i
  induction i with
  | zero =>
    intro j hj
    obtain rfl : j = eg g k 5 := by omega
    refine zs_iload (pc := 6) dM_many_6 rfl ?_
    refine zs_aload_n (pc := 8) dM_many_8 rfl ?_
    refine zs_get (pc := 9) dM_many_9 fM_9 (by first | exact z2_a | exact z2_1) (by rfl) ?_
    refine zs_iload_n (pc := 12) dM_many_12 rfl ?_
    refine zcS1_1 (pc := 13) (d2 := d - 1) (s_M_entryAt hl) dM_many_13 kM_51 mdM_entryAt msM_entryAt rfl (Nat.le_of_ble_eq_true rfl) (by omega) (by omega) (by omega) ?_
    refine zs_iconst (pc := 16) dM_many_16 zi_5 ?_
    refine zn_iadd (pc := 17) dM_many_17 ?_
    refine zn_iald (pc := 18) dM_many_18 (by first | exact z2_a | exact z2_1) (by omega) (by first | decide | assumption) ?_
    refine zn_icmp_ge (pc := 19) 53 dM_many_19 rfl (by omega) (by omega) (fun _ => ?_) (fun h9 => absurd h9 (by omega))
    refine zs_iload (pc := 53) dM_many_53 rfl ?_
    exact zs_iret (pc := 55) dM_many_55 rfl rfl (by omega) (by omega) (⟨rfl, rfl, rfl⟩)
  | succ i ih =>
    intro j hj
    have hz := ih (j + 1) (by omega)
    have hcj := hc j (by omega)
    refine zs_iload (pc := 6) dM_many_6 rfl ?_
    refine zs_aload_n (pc := 8) dM_many_8 rfl ?_
    refine zs_get (pc := 9) dM_many_9 fM_9 (by first | exact z2_a | exact z2_1) (by rfl) ?_
    refine zs_iload_n (pc := 12) dM_many_12 rfl ?_
    refine zcS1_1 (pc := 13) (d2 := d - 1) (s_M_entryAt hl) dM_many_13 kM_51 mdM_entryAt msM_entryAt rfl (Nat.le_of_ble_eq_true rfl) (by omega) (by omega) (by omega) ?_
    refine zs_iconst (pc := 16) dM_many_16 zi_5 ?_
    refine zn_iadd (pc := 17) dM_many_17 ?_
    refine zn_iald (pc := 18) dM_many_18 (by first | exact z2_a | exact z2_1) (by omega) (by first | decide | assumption) ?_
    refine zn_icmp_ge (pc := 19) 53 dM_many_19 rfl (by omega) (by omega) (fun h9 => absurd h9 (by omega)) (fun _ => ?_)
    refine zs_iload (pc := 22) dM_many_22 rfl ?_
    refine zs_aload_n (pc := 24) dM_many_24 rfl ?_
    refine zs_iload_n (pc := 25) dM_many_25 rfl ?_
    refine zs_iload (pc := 26) dM_many_26 rfl ?_
    refine zcV1_2 (pc := 28) (d2 := d - 1) (s_M_codeOf hl (by omega) hk (by omega)) dM_many_28 kM_62 mdM_codeOf miM_codeOf mvM_codeOf rfl (by exact z2_a) rfl (Nat.le_of_ble_eq_true rfl) (by omega) (by omega) (by omega) ?_
    refine zs_iload_n (pc := 31) dM_many_31 rfl ?_
    refine zs_iload_n (pc := 32) dM_many_32 rfl ?_
    refine zcS1_3 (pc := 33) (d2 := d - 1) (s_M_has hl (by omega) (by omega) h1 hv) dM_many_33 kM_66 mdM_has msM_has rfl (Nat.le_of_ble_eq_true rfl) (by omega) (by omega) (by omega) ?_
    cases hp : zhas (eg g k (6 + j)) dn v with
    | true =>
      rw [zcnt_t (p := fun i => zhas (eg g k (6 + i)) dn v) (n := j) hp] at hz
      refine zs_if_eq (pc := 36) 43 dM_many_36 rfl (fun h9 => absurd h9 (by decide)) (fun _ => ?_)
      refine zs_iconst (pc := 39) dM_many_39 zi_1 ?_
      refine zs_goto (pc := 40) 44 dM_many_40 rfl ?_
      refine zn_iadd (pc := 44) dM_many_44 ?_
      refine zs_istore (pc := 45) (ls2 := [_, _, _, _, _, _]) dM_many_45 (Nat.le_of_ble_eq_true rfl) rfl ?_
      refine zn_iinc (pc := 47) (ls2 := [_, _, _, _, _, _]) dM_many_47 rfl (Nat.le_of_ble_eq_true rfl) rfl ?_
      refine zs_goto (pc := 50) 6 dM_many_50 rfl ?_
      exact hz
    | false =>
      rw [zcnt_f (p := fun i => zhas (eg g k (6 + i)) dn v) (n := j) hp] at hz
      refine zs_if_eq (pc := 36) 43 dM_many_36 rfl (fun _ => ?_) (fun h9 => absurd h9 (by decide))
      refine zs_iconst (pc := 43) dM_many_43 zi_0 ?_
      refine zn_iadd (pc := 44) dM_many_44 ?_
      refine zs_istore (pc := 45) (ls2 := [_, _, _, _, _, _]) dM_many_45 (Nat.le_of_ble_eq_true rfl) rfl ?_
      refine zn_iinc (pc := 47) (ls2 := [_, _, _, _, _, _]) dM_many_47 rfl (Nat.le_of_ble_eq_true rfl) rfl ?_
      refine zs_goto (pc := 50) 6 dM_many_50 rfl ?_
      exact hz
theorem s_M_many {Γ : zG} {l : Launch} (hl : l.stackTraces = false) {d : Nat} (hd : 2 ≤ d) {h : zH} {n a : Nat} {g : Nat → Nat} {s3 s5 s6 s7 s8 s10 s12 s16 s17 s18 s19 s20 : Int32} {k dn v : Nat} (hk : k < 20) (h5 : eg g k 5 ≤ 6) (hc : ∀ i, i < eg g k 5 → eg g k (6 + i) < 1000) (h1 : dn ≤ 3) (hv : v < 2 ^ 31) : zC Γ l d mM_many [.ref a, .int (nI k), .int (nI dn), .int (nI v)] (z2 h a (zAr 0 246 (g)) (zMo a s3 s5 s6 s7 s8 s10 s12 s16 s17 s18 s19 s20)) n 0 0 (zR (some (.int (nI (zmany (eg g k) dn v)))) (z2 h a (zAr 0 246 (g)) (zMo a s3 s5 s6 s7 s8 s10 s12 s16 s17 s18 s19 s20)) n) := by
  refine zC_of (ls := [some (.ref a), some (.int (nI k)), some (.int (nI dn)), some (.int (nI v)), none, none]) hl (by decide +kernel) rfl (Nat.le_of_ble_eq_true rfl) rfl ?_
  refine zs_iconst (pc := 0) dM_many_0 zi_0 ?_
  refine zs_istore (pc := 1) (ls2 := [_, _, _, _, _, _]) dM_many_1 (Nat.le_of_ble_eq_true rfl) rfl ?_
  refine zs_iconst (pc := 3) dM_many_3 zi_0 ?_
  refine zs_istore (pc := 4) (ls2 := [_, _, _, _, _, _]) dM_many_4 (Nat.le_of_ble_eq_true rfl) rfl ?_
  exact lp_M_many hl hd hk h5 hc h1 hv (eg g k 5) 0 rfl
theorem s_M_score {Γ : zG} {l : Launch} (hl : l.stackTraces = false) {d : Nat} (hd : 3 ≤ d) {h : zH} {n a : Nat} {g : Nat → Nat} {s3 s5 s6 s7 s8 s10 s12 s16 s17 s18 s19 s20 : Int32} {k dn v : Nat} (hk : k < 20) (h5 : eg g k 5 ≤ 6) (hc : ∀ i, i < eg g k 5 → eg g k (6 + i) < 1000) (h1 : dn ≤ 3) (hv : v < 2 ^ 31) : zC Γ l d mM_score [.ref a, .int (nI k), .int (nI dn), .int (nI v)] (z2 h a (zAr 0 246 (g)) (zMo a s3 s5 s6 s7 s8 s10 s12 s16 s17 s18 s19 s20)) n 0 0 (zR (some (.int (zscore (eg g k) dn v))) (z2 h a (zAr 0 246 (g)) (zMo a s3 s5 s6 s7 s8 s10 s12 s16 s17 s18 s19 s20)) n) := by
  refine zC_of (ls := [some (.ref a), some (.int (nI k)), some (.int (nI dn)), some (.int (nI v)), none]) hl (by decide +kernel) rfl (Nat.le_of_ble_eq_true rfl) rfl ?_
  refine zs_iload_n (pc := 0) dM_score_0 rfl ?_
  refine zcS1_1 (pc := 1) (d2 := d - 1) (s_M_entryAt hl) dM_score_1 kM_51 mdM_entryAt msM_entryAt rfl (Nat.le_of_ble_eq_true rfl) (by omega) (by omega) (by omega) ?_
  refine zs_istore (pc := 4) (ls2 := [_, _, _, _, _]) dM_score_4 (Nat.le_of_ble_eq_true rfl) rfl ?_
  refine zs_bipush (pc := 6) dM_score_6 (zi_b 10 (by decide)) ?_
  refine zs_aload_n (pc := 8) dM_score_8 rfl ?_
  refine zs_get (pc := 9) dM_score_9 fM_9 (by first | exact z2_a | exact z2_1) (by rfl) ?_
  refine zs_iload (pc := 12) dM_score_12 rfl ?_
  refine zs_iconst (pc := 14) dM_score_14 zi_1 ?_
  refine zn_iadd (pc := 15) dM_score_15 ?_
  refine zn_iald (pc := 16) dM_score_16 (by first | exact z2_a | exact z2_1) (by omega) (by first | decide | assumption) ?_
  refine zn_imul (pc := 17) dM_score_17 ?_
  refine zs_iconst (pc := 18) dM_score_18 zi_5 ?_
  refine zs_aload_n (pc := 19) dM_score_19 rfl ?_
  refine zs_iload_n (pc := 20) dM_score_20 rfl ?_
  refine zs_iload_n (pc := 21) dM_score_21 rfl ?_
  refine zs_iload_n (pc := 22) dM_score_22 rfl ?_
  refine zcV1_3 (pc := 23) (d2 := d - 1) (s_M_many hl (by omega) hk h5 hc h1 hv) dM_score_23 kM_70 mdM_many miM_many mvM_many rfl (by exact z2_a) rfl (Nat.le_of_ble_eq_true rfl) (by omega) (by omega) (by omega) ?_
  refine zn_imul (pc := 26) dM_score_26 ?_
  refine zn_iadd (pc := 27) dM_score_27 ?_
  refine zs_aload_n (pc := 28) dM_score_28 rfl ?_
  refine zs_get (pc := 29) dM_score_29 fM_9 (by first | exact z2_a | exact z2_1) (by rfl) ?_
  refine zs_iload (pc := 32) dM_score_32 rfl ?_
  refine zs_iconst (pc := 34) dM_score_34 zi_2 ?_
  refine zn_iadd (pc := 35) dM_score_35 ?_
  refine zn_iald (pc := 36) dM_score_36 (by first | exact z2_a | exact z2_1) (by omega) (by first | decide | assumption) ?_
  refine zs_isub (pc := 37) dM_score_37 ?_
  exact zs_iret (pc := 38) dM_score_38 rfl rfl (by omega) (by omega) (⟨rfl, rfl, rfl⟩)
theorem IG.c {B k : Nat} {g : Nat → Nat} (hI : IG B g) (hk : k < g 0) : ∀ i, i < eg g k 5 → eg g k (6 + i) < 1000 := (hI.2.2.2.2.2.1 k hk).2.2.2.2.2.2.1
theorem lp_M_results {Γ : zG} {l : Launch} (hl : l.stackTraces = false) {d : Nat} (hd : 3 ≤ d) {h : zH} {n a : Nat} {g : Nat → Nat} {s3 s5 s6 s7 s8 s10 s12 s16 s17 s18 s19 s20 : Int32} {B dn v : Nat} (hI : IG B g) (h1 : dn ≤ 3) (hv : v < 2 ^ 31) : ∀ i j, i + j = g 0 → Z Γ l mM_results d 0 0 (zFin Γ (zR (some (.int (nI (zres g dn v)))) (z2 h a (zAr 0 246 (g)) (zMo a s3 s5 s6 s7 s8 s10 s12 s16 s17 s18 s19 s20)) n) 0 0) 5 [some (.ref a), some (.int (nI dn)), some (.int (nI v)), some (.int (nI (zcnt (fun k => decide (0 < zmany (eg g k) dn v)) j))), some (.int (nI j))] [] (z2 h a (zAr 0 246 (g)) (zMo a s3 s5 s6 s7 s8 s10 s12 s16 s17 s18 s19 s20)) n 0 0 := by
  have i0 := hI.1
  intro i
  induction i with
  | zero =>
    intro j hj
    obtain rfl : j = g 0 := by omega
    refine zs_iload (pc := 5) dM_results_5 rfl ?_
    refine zs_aload_n (pc := 7) dM_results_7 rfl ?_
    refine zs_get (pc := 8) dM_results_8 fM_9 (by first | exact z2_a | exact z2_1) (by rfl) ?_
    refine zs_iconst (pc := 11) dM_results_11 zi_0 ?_
    refine zn_iald (pc := 12) dM_results_12 (by first | exact z2_a | exact z2_1) (by omega) (by first | decide | assumption) ?_
    refine zn_icmp_ge (pc := 13) 41 dM_results_13 rfl (by omega) (by omega) (fun _ => ?_) (fun h9 => absurd h9 (by omega))
    refine zs_iload_n (pc := 41) dM_results_41 rfl ?_
    exact zs_iret (pc := 42) dM_results_42 rfl rfl (by omega) (by omega) (⟨rfl, rfl, rfl⟩)
  | succ i ih =>
    intro j hj
    have hz := ih (j + 1) (by omega)
    have h5 := hI.s6 j (by omega)
    have hm6 : zmany (eg g j) dn v ≤ eg g j 5 := zcnt_le _ _
    by_cases e : 0 < zmany (eg g j) dn v
    · rw [zcnt_t (p := fun k => decide (0 < zmany (eg g k) dn v)) (decide_eq_true e)] at hz
      refine zs_iload (pc := 5) dM_results_5 rfl ?_
      refine zs_aload_n (pc := 7) dM_results_7 rfl ?_
      refine zs_get (pc := 8) dM_results_8 fM_9 (by first | exact z2_a | exact z2_1) (by rfl) ?_
      refine zs_iconst (pc := 11) dM_results_11 zi_0 ?_
      refine zn_iald (pc := 12) dM_results_12 (by first | exact z2_a | exact z2_1) (by omega) (by first | decide | assumption) ?_
      refine zn_icmp_ge (pc := 13) 41 dM_results_13 rfl (by omega) (by omega) (fun h9 => absurd h9 (by omega)) (fun _ => ?_)
      refine zs_iload_n (pc := 16) dM_results_16 rfl ?_
      refine zs_aload_n (pc := 17) dM_results_17 rfl ?_
      refine zs_iload (pc := 18) dM_results_18 rfl ?_
      refine zs_iload_n (pc := 20) dM_results_20 rfl ?_
      refine zs_iload_n (pc := 21) dM_results_21 rfl ?_
      refine zcV1_3 (pc := 22) (d2 := d - 1) (s_M_many hl (by omega) (by omega) h5 (hI.c (by omega)) h1 hv) dM_results_22 kM_70 mdM_many miM_many mvM_many rfl (by exact z2_a) rfl (Nat.le_of_ble_eq_true rfl) (by omega) (by omega) (by omega) ?_
      refine zn_if_le (pc := 25) 32 dM_results_25 rfl (by omega) (fun h9 => absurd h9 (by omega)) (fun _ => ?_)
      refine zs_iconst (pc := 28) dM_results_28 zi_1 ?_
      refine zs_goto (pc := 29) 33 dM_results_29 rfl ?_
      refine zn_iadd (pc := 33) dM_results_33 ?_
      refine zs_istore_n (pc := 34) (ls2 := [_, _, _, _, _]) dM_results_34 (Nat.le_of_ble_eq_true rfl) rfl ?_
      refine zn_iinc (pc := 35) (ls2 := [_, _, _, _, _]) dM_results_35 rfl (Nat.le_of_ble_eq_true rfl) rfl ?_
      refine zs_goto (pc := 38) 5 dM_results_38 rfl ?_
      exact hz
    · rw [zcnt_f (p := fun k => decide (0 < zmany (eg g k) dn v)) (decide_eq_false e)] at hz
      refine zs_iload (pc := 5) dM_results_5 rfl ?_
      refine zs_aload_n (pc := 7) dM_results_7 rfl ?_
      refine zs_get (pc := 8) dM_results_8 fM_9 (by first | exact z2_a | exact z2_1) (by rfl) ?_
      refine zs_iconst (pc := 11) dM_results_11 zi_0 ?_
      refine zn_iald (pc := 12) dM_results_12 (by first | exact z2_a | exact z2_1) (by omega) (by first | decide | assumption) ?_
      refine zn_icmp_ge (pc := 13) 41 dM_results_13 rfl (by omega) (by omega) (fun h9 => absurd h9 (by omega)) (fun _ => ?_)
      refine zs_iload_n (pc := 16) dM_results_16 rfl ?_
      refine zs_aload_n (pc := 17) dM_results_17 rfl ?_
      refine zs_iload (pc := 18) dM_results_18 rfl ?_
      refine zs_iload_n (pc := 20) dM_results_20 rfl ?_
      refine zs_iload_n (pc := 21) dM_results_21 rfl ?_
      refine zcV1_3 (pc := 22) (d2 := d - 1) (s_M_many hl (by omega) (by omega) h5 (hI.c (by omega)) h1 hv) dM_results_22 kM_70 mdM_many miM_many mvM_many rfl (by exact z2_a) rfl (Nat.le_of_ble_eq_true rfl) (by omega) (by omega) (by omega) ?_
      refine zn_if_le (pc := 25) 32 dM_results_25 rfl (by omega) (fun _ => ?_) (fun h9 => absurd h9 (by omega))
      refine zs_iconst (pc := 32) dM_results_32 zi_0 ?_
      refine zn_iadd (pc := 33) dM_results_33 ?_
      refine zs_istore_n (pc := 34) (ls2 := [_, _, _, _, _]) dM_results_34 (Nat.le_of_ble_eq_true rfl) rfl ?_
      refine zn_iinc (pc := 35) (ls2 := [_, _, _, _, _]) dM_results_35 rfl (Nat.le_of_ble_eq_true rfl) rfl ?_
      refine zs_goto (pc := 38) 5 dM_results_38 rfl ?_
      exact hz
theorem s_M_results {Γ : zG} {l : Launch} (hl : l.stackTraces = false) {d : Nat} (hd : 3 ≤ d) {h : zH} {n a : Nat} {g : Nat → Nat} {s3 s5 s6 s7 s8 s10 s12 s16 s17 s18 s19 s20 : Int32} {B dn v : Nat} (hI : IG B g) (h1 : dn ≤ 3) (hv : v < 2 ^ 31) : zC Γ l d mM_results [.ref a, .int (nI dn), .int (nI v)] (z2 h a (zAr 0 246 (g)) (zMo a s3 s5 s6 s7 s8 s10 s12 s16 s17 s18 s19 s20)) n 0 0 (zR (some (.int (nI (zres g dn v)))) (z2 h a (zAr 0 246 (g)) (zMo a s3 s5 s6 s7 s8 s10 s12 s16 s17 s18 s19 s20)) n) := by
  refine zC_of (ls := [some (.ref a), some (.int (nI dn)), some (.int (nI v)), none, none]) hl (by decide +kernel) rfl (Nat.le_of_ble_eq_true rfl) rfl ?_
  refine zs_iconst (pc := 0) dM_results_0 zi_0 ?_
  refine zs_istore_n (pc := 1) (ls2 := [_, _, _, _, _]) dM_results_1 (Nat.le_of_ble_eq_true rfl) rfl ?_
  refine zs_iconst (pc := 2) dM_results_2 zi_0 ?_
  refine zs_istore (pc := 3) (ls2 := [_, _, _, _, _]) dM_results_3 (Nat.le_of_ble_eq_true rfl) rfl ?_
  exact lp_M_results hl hd hI h1 hv (g 0) 0 rfl
theorem s_M_holders {Γ : zG} {l : Launch} (hl : l.stackTraces = false) {d : Nat} (hd : 4 ≤ d) {h : zH} {n a : Nat} {g : Nat → Nat} {s3 s5 s6 s7 s8 s10 s12 s16 s17 s18 s19 s20 : Int32} {B v : Nat} (hI : IG B g) (hv : v < 2 ^ 31) : zC Γ l d mM_holders [.ref a, .int (nI v)] (z2 h a (zAr 0 246 (g)) (zMo a s3 s5 s6 s7 s8 s10 s12 s16 s17 s18 s19 s20)) n 0 0 (zR (some (.int (nI (zres g 3 v)))) (z2 h a (zAr 0 246 (g)) (zMo a s3 s5 s6 s7 s8 s10 s12 s16 s17 s18 s19 s20)) n) := by
  refine zC_of (ls := [some (.ref a), some (.int (nI v))]) hl (by decide +kernel) rfl (Nat.le_of_ble_eq_true rfl) rfl ?_
  refine zs_aload_n (pc := 0) dM_holders_0 rfl ?_
  refine zs_iconst (pc := 1) dM_holders_1 zi_3 ?_
  refine zs_iload_n (pc := 2) dM_holders_2 rfl ?_
  refine zcV1_2 (pc := 3) (d2 := d - 1) (s_M_results hl (by omega) hI (by decide) hv) dM_holders_3 kM_77 mdM_results miM_results mvM_results rfl (by exact z2_a) rfl (Nat.le_of_ble_eq_true rfl) (by omega) (by omega) (by omega) ?_
  exact zs_iret (pc := 6) dM_holders_6 rfl rfl (by omega) (by omega) (⟨rfl, rfl, rfl⟩)
theorem s_M_lifetime {Γ : zG} {l : Launch} (hl : l.stackTraces = false) {d : Nat} (hd : 1 ≤ d) {h : zH} {n a : Nat} {g : Nat → Nat} {s3 s5 s6 s7 s8 s10 s12 s16 s17 s18 s19 s20 : Int32} {k : Nat} (hk : k < 20) (h1 : eg g k 1 < 2 ^ 20) (h3 : eg g k 3 ≤ 2 ^ 20) : zC Γ l d mM_lifetime [.ref a, .int (nI k)] (z2 h a (zAr 0 246 (g)) (zMo a s3 s5 s6 s7 s8 s10 s12 s16 s17 s18 s19 s20)) n 0 0 (zR (some (.int (nI (zlife (eg g k))))) (z2 h a (zAr 0 246 (g)) (zMo a s3 s5 s6 s7 s8 s10 s12 s16 s17 s18 s19 s20)) n) := by
  have e1 : g (6 + 12 * k + 1) = eg g k 1 := rfl
  have e3 : g (6 + 12 * k + 3) = eg g k 3 := rfl
  refine zC_of (ls := [some (.ref a), some (.int (nI k)), none]) hl (by decide +kernel) rfl (Nat.le_of_ble_eq_true rfl) rfl ?_
  refine zs_iload_n (pc := 0) dM_lifetime_0 rfl ?_
  refine zcS1_1 (pc := 1) (d2 := d - 1) (s_M_entryAt hl) dM_lifetime_1 kM_51 mdM_entryAt msM_entryAt rfl (Nat.le_of_ble_eq_true rfl) (by omega) (by omega) (by omega) ?_
  refine zs_istore_n (pc := 4) (ls2 := [_, _, _]) dM_lifetime_4 (Nat.le_of_ble_eq_true rfl) rfl ?_
  refine zs_sipush (pc := 5) dM_lifetime_5 (zi_s 150 (by decide)) ?_
  refine zs_bipush (pc := 8) dM_lifetime_8 (zi_b 10 (by decide)) ?_
  refine zs_aload_n (pc := 10) dM_lifetime_10 rfl ?_
  refine zs_get (pc := 11) dM_lifetime_11 fM_9 (by first | exact z2_a | exact z2_1) (by rfl) ?_
  refine zs_iload_n (pc := 14) dM_lifetime_14 rfl ?_
  refine zs_iconst (pc := 15) dM_lifetime_15 zi_1 ?_
  refine zn_iadd (pc := 16) dM_lifetime_16 ?_
  refine zn_iald (pc := 17) dM_lifetime_17 (by first | exact z2_a | exact z2_1) (by omega) (by first | decide | assumption) ?_
  refine zn_imul (pc := 18) dM_lifetime_18 ?_
  refine zs_iconst (pc := 19) dM_lifetime_19 zi_5 ?_
  refine zs_aload_n (pc := 20) dM_lifetime_20 rfl ?_
  refine zs_get (pc := 21) dM_lifetime_21 fM_9 (by first | exact z2_a | exact z2_1) (by rfl) ?_
  refine zs_iload_n (pc := 24) dM_lifetime_24 rfl ?_
  refine zs_iconst (pc := 25) dM_lifetime_25 zi_3 ?_
  refine zn_iadd (pc := 26) dM_lifetime_26 ?_
  refine zn_iald (pc := 27) dM_lifetime_27 (by first | exact z2_a | exact z2_1) (by omega) (by first | decide | assumption) ?_
  refine zn_imul (pc := 28) dM_lifetime_28 ?_
  refine zn_iadd (pc := 29) dM_lifetime_29 ?_
  refine zn_mmin (pc := 30) dM_lifetime_30 kM_80 (Nat.le_of_ble_eq_true rfl) (by omega) (by omega) (by omega) (by omega) ?_
  have e : min 150 (10 * g (6 + 12 * k + 1) + 5 * g (6 + 12 * k + 3)) = zlife (eg g k) := by
    rw [e1, e3]
    unfold zlife
    split <;> omega
  rw [e]
  exact zs_iret (pc := 33) dM_lifetime_33 rfl rfl (by omega) (by omega) (⟨rfl, rfl, rfl⟩)
theorem s_M_daysLeft {Γ : zG} {l : Launch} (hl : l.stackTraces = false) {d : Nat} (hd : 2 ≤ d) {h : zH} {n a : Nat} {g : Nat → Nat} {s3 s5 s6 s7 s8 s10 s12 s16 s17 s18 s19 s20 : Int32} {k : Nat} (hk : k < 20) (h1 : eg g k 1 < 2 ^ 20) (h3 : eg g k 3 ≤ 2 ^ 20) (h2 : eg g k 2 ≤ zlife (eg g k)) : zC Γ l d mM_daysLeft [.ref a, .int (nI k)] (z2 h a (zAr 0 246 (g)) (zMo a s3 s5 s6 s7 s8 s10 s12 s16 s17 s18 s19 s20)) n 0 0 (zR (some (.int (nI (zlife (eg g k) - eg g k 2 + 1)))) (z2 h a (zAr 0 246 (g)) (zMo a s3 s5 s6 s7 s8 s10 s12 s16 s17 s18 s19 s20)) n) := by
  have e2 : g (6 + 12 * k + 2) = eg g k 2 := rfl
  refine zC_of (ls := [some (.ref a), some (.int (nI k))]) hl (by decide +kernel) rfl (Nat.le_of_ble_eq_true rfl) rfl ?_
  refine zs_aload_n (pc := 0) dM_daysLeft_0 rfl ?_
  refine zs_iload_n (pc := 1) dM_daysLeft_1 rfl ?_
  refine zcV1_1 (pc := 2) (d2 := d - 1) (s_M_lifetime hl (by omega) hk h1 h3) dM_daysLeft_2 kM_85 mdM_lifetime miM_lifetime mvM_lifetime rfl (by exact z2_a) rfl (Nat.le_of_ble_eq_true rfl) (by omega) (by omega) (by omega) ?_
  refine zs_aload_n (pc := 5) dM_daysLeft_5 rfl ?_
  refine zs_get (pc := 6) dM_daysLeft_6 fM_9 (by first | exact z2_a | exact z2_1) (by rfl) ?_
  refine zs_iload_n (pc := 9) dM_daysLeft_9 rfl ?_
  refine zcS1_1 (pc := 10) (d2 := d - 1) (s_M_entryAt hl) dM_daysLeft_10 kM_51 mdM_entryAt msM_entryAt rfl (Nat.le_of_ble_eq_true rfl) (by omega) (by omega) (by omega) ?_
  refine zs_iconst (pc := 13) dM_daysLeft_13 zi_2 ?_
  refine zn_iadd (pc := 14) dM_daysLeft_14 ?_
  refine zn_iald (pc := 15) dM_daysLeft_15 (by first | exact z2_a | exact z2_1) (by omega) (by first | decide | assumption) ?_
  refine zn_isub (pc := 16) dM_daysLeft_16 (by omega) ?_
  refine zs_iconst (pc := 17) dM_daysLeft_17 zi_1 ?_
  refine zn_iadd (pc := 18) dM_daysLeft_18 ?_
  exact zs_iret (pc := 19) dM_daysLeft_19 rfl rfl (by omega) (by omega) (⟨rfl, rfl, rfl⟩)

