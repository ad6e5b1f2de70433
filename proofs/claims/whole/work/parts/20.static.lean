/-! the class's static helpers -/
/-- a prefix of dn digits with the value v -/
def zPf (x y : Int32) (dn v : Nat) : Prop := x = nI dn ∧ y = nI v ∧ dn ≤ 3 ∧ v < 10 ^ dn
theorem z10 {k : Nat} (h : k ≤ 3) : 0 < 10 ^ k ∧ 10 ^ k ≤ 1000 := ⟨Nat.pow_pos (by decide), Nat.pow_le_pow_right (by decide) h⟩
theorem lp_X_withoutEnd {Γ : zG} {l : Launch} (hl : l.stackTraces = false) {d : Nat} {h : zH} {n : Nat} {a k : Nat} (ha : a < 2 ^ 31) (hk : k ≤ 3) : ∀ i j, i + j = k → Z Γ l mX_withoutEnd d 0 0 (zFin Γ (zR (some (.int (nI (a / 10 ^ k)))) h n) 0 0) 4 [some (.int (nI a)), some (.int (nI k)), some (.int (nI (a / 10 ^ j))), some (.int (nI j))] [] h n 0 0 := by
  intro i
  induction i with
  | zero =>
    intro j hj
    refine zs_iload_n (pc := 4) dX_withoutEnd_4 rfl ?_
    refine zs_iload_n (pc := 5) dX_withoutEnd_5 rfl ?_
    refine zn_icmp_ge (pc := 6) 20 dX_withoutEnd_6 rfl (by omega) (by omega) (fun _ => ?_) (fun h9 => absurd h9 (by omega))
    refine zs_iload_n (pc := 20) dX_withoutEnd_20 rfl ?_
    have e : j = k := by omega
    subst e
    exact zs_iret (pc := 21) dX_withoutEnd_21 rfl rfl (by omega) (by omega) (⟨rfl, rfl, rfl⟩)
  | succ i ih =>
    intro j hj
    have e1 : a / 10 ^ j / 10 = a / 10 ^ (j + 1) := by rw [Nat.div_div_eq_div_mul, Nat.pow_succ]
    have e2 : a / 10 ^ j ≤ a := Nat.div_le_self _ _
    refine zs_iload_n (pc := 4) dX_withoutEnd_4 rfl ?_
    refine zs_iload_n (pc := 5) dX_withoutEnd_5 rfl ?_
    refine zn_icmp_ge (pc := 6) 20 dX_withoutEnd_6 rfl (by omega) (by omega) (fun h9 => absurd h9 (by omega)) (fun _ => ?_)
    refine zs_iload_n (pc := 9) dX_withoutEnd_9 rfl ?_
    refine zs_bipush (pc := 10) dX_withoutEnd_10 (zi_b 10 (by decide)) ?_
    refine zn_idiv (pc := 12) dX_withoutEnd_12 (by omega) (by omega) (by omega) ?_
    refine zs_istore_n (pc := 13) (ls2 := [_, _, _, _]) dX_withoutEnd_13 (Nat.le_of_ble_eq_true rfl) rfl ?_
    refine zn_iinc (pc := 14) (ls2 := [_, _, _, _]) dX_withoutEnd_14 rfl (Nat.le_of_ble_eq_true rfl) rfl ?_
    refine zs_goto (pc := 17) 4 dX_withoutEnd_17 rfl ?_
    rw [e1]
    exact ih (j + 1) (by omega)
theorem s_X_withoutEnd {Γ : zG} {l : Launch} (hl : l.stackTraces = false) {d : Nat} {h : zH} {n : Nat} {a k : Nat} (ha : a < 2 ^ 31) (hk : k ≤ 3) : zC Γ l d mX_withoutEnd [.int (nI a), .int (nI k)] h n 0 0 (zR (some (.int (nI (a / 10 ^ k)))) h n) := by
  refine zC_of (ls := [some (.int (nI a)), some (.int (nI k)), none, none]) hl (by decide +kernel) rfl (Nat.le_of_ble_eq_true rfl) rfl ?_
  refine zs_iload_n (pc := 0) dX_withoutEnd_0 rfl ?_
  refine zs_istore_n (pc := 1) (ls2 := [_, _, _, _]) dX_withoutEnd_1 (Nat.le_of_ble_eq_true rfl) rfl ?_
  refine zs_iconst (pc := 2) dX_withoutEnd_2 zi_0 ?_
  refine zs_istore_n (pc := 3) (ls2 := [_, _, _, _]) dX_withoutEnd_3 (Nat.le_of_ble_eq_true rfl) rfl ?_
  have h0 := lp_X_withoutEnd (Γ := Γ) hl (d := d) (h := h) (n := n) ha hk k 0 (by omega)
  rw [Nat.pow_zero, Nat.div_one] at h0
  exact h0
theorem s_X_isCode_y {Γ : zG} {l : Launch} (hl : l.stackTraces = false) {d : Nat} {h : zH} {n : Nat} {c : Nat} (hc : c < 1000) : zC Γ l d mX_isCode [.int (nI c)] h n 0 0 (zR (some (.int 1)) h n) := by
  refine zC_of (ls := [some (.int (nI c))]) hl (by decide +kernel) rfl (Nat.le_of_ble_eq_true rfl) rfl ?_
  refine zs_iload_n (pc := 0) dX_isCode_0 rfl ?_
  refine zs_if_lt (pc := 1) 15 dX_isCode_1 rfl (fun h9 => absurd h9 (nI_pos (by omega))) (fun _ => ?_)
  refine zs_iload_n (pc := 4) dX_isCode_4 rfl ?_
  refine zs_sipush (pc := 5) dX_isCode_5 (zi_s 1000 (by decide)) ?_
  refine zn_icmp_ge (pc := 8) 15 dX_isCode_8 rfl (by omega) (by omega) (fun h9 => absurd h9 (by omega)) (fun _ => ?_)
  refine zs_iconst (pc := 11) dX_isCode_11 zi_1 ?_
  refine zs_goto (pc := 12) 16 dX_isCode_12 rfl ?_
  exact zs_iret (pc := 16) dX_isCode_16 rfl rfl (by omega) (by omega) (⟨rfl, rfl, rfl⟩)
theorem s_X_isCode_n {Γ : zG} {l : Launch} (hl : l.stackTraces = false) {d : Nat} {h : zH} {n : Nat} {x : Int32} (hx : ¬ ∃ c, c < 1000 ∧ x = nI c) : zC Γ l d mX_isCode [.int x] h n 0 0 (zR (some (.int 0)) h n) := by
  refine zC_of (ls := [some (.int x)]) hl (by decide +kernel) rfl (Nat.le_of_ble_eq_true rfl) rfl ?_
  refine zs_iload_n (pc := 0) dX_isCode_0 rfl ?_
  refine zs_if_lt (pc := 1) 15 dX_isCode_1 rfl (fun hb => ?_) (fun hb => ?_)
  · refine zs_iconst (pc := 15) dX_isCode_15 zi_0 ?_
    exact zs_iret (pc := 16) dX_isCode_16 rfl rfl (by omega) (by omega) (⟨rfl, rfl, rfl⟩)
  · obtain ⟨j, hj, rfl⟩ := nI_of hb
    refine zs_iload_n (pc := 4) dX_isCode_4 rfl ?_
    refine zs_sipush (pc := 5) dX_isCode_5 (zi_s 1000 (by decide)) ?_
    refine zn_icmp_ge (pc := 8) 15 dX_isCode_8 rfl (by omega) (by omega) (fun _ => ?_) (fun h9 => absurd h9 (fun h9 => hx ⟨j, by omega, rfl⟩))
    refine zs_iconst (pc := 15) dX_isCode_15 zi_0 ?_
    exact zs_iret (pc := 16) dX_isCode_16 rfl rfl (by omega) (by omega) (⟨rfl, rfl, rfl⟩)
theorem s_X_isPrefix_y {Γ : zG} {l : Launch} (hl : l.stackTraces = false) {d : Nat} (hd : 1 ≤ d) {h : zH} {n : Nat} {x y : Int32} {dn v : Nat} (hp : zPf x y dn v) : zC Γ l d mX_isPrefix [.int x, .int y] h n 0 0 (zR (some (.int 1)) h n) := by
  obtain ⟨rfl, rfl, h1, h2⟩ := hp
  have h3 := (z10 h1).2
  have e : v / 10 ^ dn = 0 := Nat.div_eq_of_lt h2
  refine zC_of (ls := [some (.int (nI dn)), some (.int (nI v))]) hl (by decide +kernel) rfl (Nat.le_of_ble_eq_true rfl) rfl ?_
  refine zs_iload_n (pc := 0) dX_isPrefix_0 rfl ?_
  refine zs_if_lt (pc := 1) 25 dX_isPrefix_1 rfl (fun h9 => absurd h9 (nI_pos (by omega))) (fun _ => ?_)
  refine zs_iload_n (pc := 4) dX_isPrefix_4 rfl ?_
  refine zs_iconst (pc := 5) dX_isPrefix_5 zi_3 ?_
  refine zn_icmp_gt (pc := 6) 25 dX_isPrefix_6 rfl (by omega) (by omega) (fun h9 => absurd h9 (by omega)) (fun _ => ?_)
  refine zs_iload_n (pc := 9) dX_isPrefix_9 rfl ?_
  refine zs_if_lt (pc := 10) 25 dX_isPrefix_10 rfl (fun h9 => absurd h9 (nI_pos (by omega))) (fun _ => ?_)
  refine zs_iload_n (pc := 13) dX_isPrefix_13 rfl ?_
  refine zs_iload_n (pc := 14) dX_isPrefix_14 rfl ?_
  refine zcS1_2 (pc := 15) (d2 := d - 1) (s_X_withoutEnd hl (by omega) h1) dX_isPrefix_15 kX_394 mdX_withoutEnd msX_withoutEnd rfl (Nat.le_of_ble_eq_true rfl) (by omega) (by omega) (by omega) ?_
  refine zn_if_ne (pc := 18) 25 dX_isPrefix_18 rfl (by omega) (fun h9 => absurd h9 (by omega)) (fun _ => ?_)
  refine zs_iconst (pc := 21) dX_isPrefix_21 zi_1 ?_
  refine zs_goto (pc := 22) 26 dX_isPrefix_22 rfl ?_
  exact zs_iret (pc := 26) dX_isPrefix_26 rfl rfl (by omega) (by omega) (⟨rfl, rfl, rfl⟩)
theorem s_X_isPrefix_n {Γ : zG} {l : Launch} (hl : l.stackTraces = false) {d : Nat} (hd : 1 ≤ d) {h : zH} {n : Nat} {x y : Int32} (hp : ¬ ∃ dn v, zPf x y dn v) : zC Γ l d mX_isPrefix [.int x, .int y] h n 0 0 (zR (some (.int 0)) h n) := by
  refine zC_of (ls := [some (.int x), some (.int y)]) hl (by decide +kernel) rfl (Nat.le_of_ble_eq_true rfl) rfl ?_
  refine zs_iload_n (pc := 0) dX_isPrefix_0 rfl ?_
  refine zs_if_lt (pc := 1) 25 dX_isPrefix_1 rfl (fun hb => ?_) (fun hb => ?_)
  · refine zs_iconst (pc := 25) dX_isPrefix_25 zi_0 ?_
    exact zs_iret (pc := 26) dX_isPrefix_26 rfl rfl (by omega) (by omega) (⟨rfl, rfl, rfl⟩)
  · obtain ⟨j, hj, rfl⟩ := nI_of hb
    refine zs_iload_n (pc := 4) dX_isPrefix_4 rfl ?_
    refine zs_iconst (pc := 5) dX_isPrefix_5 zi_3 ?_
    refine zn_icmp_gt (pc := 6) 25 dX_isPrefix_6 rfl (by omega) (by omega) (fun hb2 => ?_) (fun hb2 => ?_)
    · refine zs_iconst (pc := 25) dX_isPrefix_25 zi_0 ?_
      exact zs_iret (pc := 26) dX_isPrefix_26 rfl rfl (by omega) (by omega) (⟨rfl, rfl, rfl⟩)
    · refine zs_iload_n (pc := 9) dX_isPrefix_9 rfl ?_
      refine zs_if_lt (pc := 10) 25 dX_isPrefix_10 rfl (fun hb3 => ?_) (fun hb3 => ?_)
      · refine zs_iconst (pc := 25) dX_isPrefix_25 zi_0 ?_
        exact zs_iret (pc := 26) dX_isPrefix_26 rfl rfl (by omega) (by omega) (⟨rfl, rfl, rfl⟩)
      · obtain ⟨v, hv, rfl⟩ := nI_of hb3
        have h3 := z10 (k := j) (by omega)
        have e2 : v / 10 ^ j ≤ v := Nat.div_le_self _ _
        refine zs_iload_n (pc := 13) dX_isPrefix_13 rfl ?_
        refine zs_iload_n (pc := 14) dX_isPrefix_14 rfl ?_
        refine zcS1_2 (pc := 15) (d2 := d - 1) (s_X_withoutEnd hl (by omega) (by omega)) dX_isPrefix_15 kX_394 mdX_withoutEnd msX_withoutEnd rfl (Nat.le_of_ble_eq_true rfl) (by omega) (by omega) (by omega) ?_
        refine zn_if_ne (pc := 18) 25 dX_isPrefix_18 rfl (by omega) (fun _ => ?_) (fun h9 => absurd h9 (fun h9 => hp ⟨j, v, rfl, rfl, by omega, (Nat.div_eq_zero_iff_lt h3.1).mp h9⟩))
        refine zs_iconst (pc := 25) dX_isPrefix_25 zi_0 ?_
        exact zs_iret (pc := 26) dX_isPrefix_26 rfl rfl (by omega) (by omega) (⟨rfl, rfl, rfl⟩)
def zb (b : Bool) : Nat := match b with
  | true => 1
  | false => 0
/-- has a code a prefix -/
def zhas (c dn v : Nat) : Bool := c / 10 ^ (3 - dn) == v
theorem s_X_hasPrefix {Γ : zG} {l : Launch} (hl : l.stackTraces = false) {d : Nat} (hd : 1 ≤ d) {h : zH} {n : Nat} {c dn v : Nat} (hc : c < 1000) (h1 : dn ≤ 3) (hv : v < 2 ^ 31) : zC Γ l d mX_hasPrefix [.int (nI c), .int (nI dn), .int (nI v)] h n 0 0 (zR (some (.int (nI (zb (zhas c dn v))))) h n) := by
  have e2 : c / 10 ^ (3 - dn) ≤ c := Nat.div_le_self _ _
  refine zC_of (ls := [some (.int (nI c)), some (.int (nI dn)), some (.int (nI v))]) hl (by decide +kernel) rfl (Nat.le_of_ble_eq_true rfl) rfl ?_
  refine zs_iload_n (pc := 0) dX_hasPrefix_0 rfl ?_
  refine zs_iconst (pc := 1) dX_hasPrefix_1 zi_3 ?_
  refine zs_iload_n (pc := 2) dX_hasPrefix_2 rfl ?_
  refine zn_isub (pc := 3) dX_hasPrefix_3 (by omega) ?_
  refine zcS1_2 (pc := 4) (d2 := d - 1) (s_X_withoutEnd hl (by omega) (by omega)) dX_hasPrefix_4 kX_394 mdX_withoutEnd msX_withoutEnd rfl (Nat.le_of_ble_eq_true rfl) (by omega) (by omega) (by omega) ?_
  refine zs_iload_n (pc := 7) dX_hasPrefix_7 rfl ?_
  refine zn_icmp_ne (pc := 8) 15 dX_hasPrefix_8 rfl (by omega) (by omega) (fun hb => ?_) (fun hb => ?_)
  · refine zs_iconst (pc := 15) dX_hasPrefix_15 zi_0 ?_
    have e : zhas c dn v = false := by simp [zhas, hb]
    rw [e]
    exact zs_iret (pc := 16) dX_hasPrefix_16 rfl rfl (by omega) (by omega) (⟨rfl, rfl, rfl⟩)
  · refine zs_iconst (pc := 11) dX_hasPrefix_11 zi_1 ?_
    refine zs_goto (pc := 12) 16 dX_hasPrefix_12 rfl ?_
    have e : zhas c dn v = true := by simp [zhas, hb]
    rw [e]
    exact zs_iret (pc := 16) dX_hasPrefix_16 rfl rfl (by omega) (by omega) (⟨rfl, rfl, rfl⟩)
/-- how many leading digits two codes share -/
def zcom (a b : Nat) : Nat := if a = b then 3 else if a / 10 = b / 10 then 2 else if a / 100 = b / 100 then 1 else 0
theorem s_X_commonDigits {Γ : zG} {l : Launch} (hl : l.stackTraces = false) {d : Nat} {h : zH} {n : Nat} {a b : Nat} (ha : a < 1000) (hb : b < 1000) : zC Γ l d mX_commonDigits [.int (nI a), .int (nI b)] h n 0 0 (zR (some (.int (nI (zcom a b)))) h n) := by
  refine zC_of (ls := [some (.int (nI a)), some (.int (nI b))]) hl (by decide +kernel) rfl (Nat.le_of_ble_eq_true rfl) rfl ?_
  refine zs_iload_n (pc := 0) dX_commonDigits_0 rfl ?_
  refine zs_iload_n (pc := 1) dX_commonDigits_1 rfl ?_
  refine zn_icmp_ne (pc := 2) 7 dX_commonDigits_2 rfl (by omega) (by omega) (fun h1 => ?_) (fun h1 => ?_)
  · refine zs_iload_n (pc := 7) dX_commonDigits_7 rfl ?_
    refine zs_bipush (pc := 8) dX_commonDigits_8 (zi_b 10 (by decide)) ?_
    refine zn_idiv (pc := 10) dX_commonDigits_10 (by omega) (by omega) (by omega) ?_
    refine zs_iload_n (pc := 11) dX_commonDigits_11 rfl ?_
    refine zs_bipush (pc := 12) dX_commonDigits_12 (zi_b 10 (by decide)) ?_
    refine zn_idiv (pc := 14) dX_commonDigits_14 (by omega) (by omega) (by omega) ?_
    refine zn_icmp_ne (pc := 15) 20 dX_commonDigits_15 rfl (by omega) (by omega) (fun h2 => ?_) (fun h2 => ?_)
    · refine zs_iload_n (pc := 20) dX_commonDigits_20 rfl ?_
      refine zs_bipush (pc := 21) dX_commonDigits_21 (zi_b 100 (by decide)) ?_
      refine zn_idiv (pc := 23) dX_commonDigits_23 (by omega) (by omega) (by omega) ?_
      refine zs_iload_n (pc := 24) dX_commonDigits_24 rfl ?_
      refine zs_bipush (pc := 25) dX_commonDigits_25 (zi_b 100 (by decide)) ?_
      refine zn_idiv (pc := 27) dX_commonDigits_27 (by omega) (by omega) (by omega) ?_
      refine zn_icmp_ne (pc := 28) 35 dX_commonDigits_28 rfl (by omega) (by omega) (fun h3 => ?_) (fun h3 => ?_)
      · refine zs_iconst (pc := 35) dX_commonDigits_35 zi_0 ?_
        rw [show zcom a b = 0 by unfold zcom; rw [if_neg h1, if_neg h2, if_neg h3]]
        exact zs_iret (pc := 36) dX_commonDigits_36 rfl rfl (by omega) (by omega) (⟨rfl, rfl, rfl⟩)
      · refine zs_iconst (pc := 31) dX_commonDigits_31 zi_1 ?_
        refine zs_goto (pc := 32) 36 dX_commonDigits_32 rfl ?_
        rw [show zcom a b = 1 by unfold zcom; rw [if_neg h1, if_neg h2, if_pos h3]]
        exact zs_iret (pc := 36) dX_commonDigits_36 rfl rfl (by omega) (by omega) (⟨rfl, rfl, rfl⟩)
    · refine zs_iconst (pc := 18) dX_commonDigits_18 zi_2 ?_
      rw [show zcom a b = 2 by unfold zcom; rw [if_neg h1, if_pos h2]]
      exact zs_iret (pc := 19) dX_commonDigits_19 rfl rfl (by omega) (by omega) (⟨rfl, rfl, rfl⟩)
  · refine zs_iconst (pc := 5) dX_commonDigits_5 zi_3 ?_
    rw [show zcom a b = 3 by unfold zcom; rw [if_pos h1]]
    exact zs_iret (pc := 6) dX_commonDigits_6 rfl rfl (by omega) (by omega) (⟨rfl, rfl, rfl⟩)
theorem s_X_requireCode_y {Γ : zG} {l : Launch} (hl : l.stackTraces = false) {d : Nat} (hd : 1 ≤ d) {h : zH} {n : Nat} {c : Nat} (hc : c < 1000) : zC Γ l d mX_requireCode [.int (nI c)] h n 0 0 (zR none h n) := by
  refine zC_of (ls := [some (.int (nI c))]) hl (by decide +kernel) rfl (Nat.le_of_ble_eq_true rfl) rfl ?_
  refine zs_iload_n (pc := 0) dX_requireCode_0 rfl ?_
  refine zcS1_1 (pc := 1) (d2 := d - 1) (s_X_isCode_y hl hc) dX_requireCode_1 kX_385 mdX_isCode msX_isCode rfl (Nat.le_of_ble_eq_true rfl) (by omega) (by omega) (by omega) ?_
  refine zs_if_ne (pc := 4) 17 dX_requireCode_4 rfl (fun _ => ?_) (fun h9 => absurd h9 (by decide))
  exact zs_vret (pc := 17) dX_requireCode_17 rfl (by omega) (by omega) (⟨rfl, rfl, rfl⟩)
theorem s_X_requireCode_n {Γ : zG} {l : Launch} (hl : l.stackTraces = false) {d : Nat} (hd : 1 ≤ d) {h : zH} {n : Nat} {x : Int32} (hx : ¬ ∃ c, c < 1000 ∧ x = nI c) : zC Γ l d mX_requireCode [.int x] h n 1 6 (zTw "java/lang/IllegalArgumentException" h n) := by
  refine zC_of (ls := [some (.int x)]) hl (by decide +kernel) rfl (Nat.le_of_ble_eq_true rfl) rfl ?_
  refine zs_iload_n (pc := 0) dX_requireCode_0 rfl ?_
  refine zcS1_1 (pc := 1) (d2 := d - 1) (s_X_isCode_n hl hx) dX_requireCode_1 kX_385 mdX_isCode msX_isCode rfl (Nat.le_of_ble_eq_true rfl) (by omega) (by omega) (by omega) ?_
  refine zs_if_ne (pc := 4) 17 dX_requireCode_4 rfl (fun h9 => absurd h9 (by decide)) (fun _ => ?_)
  exact zs_throw (pc := 7) (text := "the code is out of range") thIA (by decide) rfl dX_requireCode_7 dX_requireCode_10 dX_requireCode_11 dX_requireCode_13 dX_requireCode_16 (Nat.le_of_ble_eq_true rfl) (by omega) (by omega) (fun n2 hn2 => ⟨rfl, rfl, by omega⟩)
theorem s_X_requirePrefix_y {Γ : zG} {l : Launch} (hl : l.stackTraces = false) {d : Nat} (hd : 2 ≤ d) {h : zH} {n : Nat} {x y : Int32} {dn v : Nat} (hp : zPf x y dn v) : zC Γ l d mX_requirePrefix [.int x, .int y] h n 0 0 (zR none h n) := by
  refine zC_of (ls := [some (.int x), some (.int y)]) hl (by decide +kernel) rfl (Nat.le_of_ble_eq_true rfl) rfl ?_
  refine zs_iload_n (pc := 0) dX_requirePrefix_0 rfl ?_
  refine zs_iload_n (pc := 1) dX_requirePrefix_1 rfl ?_
  refine zcS1_2 (pc := 2) (d2 := d - 1) (s_X_isPrefix_y hl (by omega) hp) dX_requirePrefix_2 kX_388 mdX_isPrefix msX_isPrefix rfl (Nat.le_of_ble_eq_true rfl) (by omega) (by omega) (by omega) ?_
  refine zs_if_ne (pc := 5) 19 dX_requirePrefix_5 rfl (fun _ => ?_) (fun h9 => absurd h9 (by decide))
  exact zs_vret (pc := 19) dX_requirePrefix_19 rfl (by omega) (by omega) (⟨rfl, rfl, rfl⟩)
theorem s_X_requirePrefix_n {Γ : zG} {l : Launch} (hl : l.stackTraces = false) {d : Nat} (hd : 2 ≤ d) {h : zH} {n : Nat} {x y : Int32} (hp : ¬ ∃ dn v, zPf x y dn v) : zC Γ l d mX_requirePrefix [.int x, .int y] h n 1 6 (zTw "java/lang/IllegalArgumentException" h n) := by
  refine zC_of (ls := [some (.int x), some (.int y)]) hl (by decide +kernel) rfl (Nat.le_of_ble_eq_true rfl) rfl ?_
  refine zs_iload_n (pc := 0) dX_requirePrefix_0 rfl ?_
  refine zs_iload_n (pc := 1) dX_requirePrefix_1 rfl ?_
  refine zcS1_2 (pc := 2) (d2 := d - 1) (s_X_isPrefix_n hl (by omega) hp) dX_requirePrefix_2 kX_388 mdX_isPrefix msX_isPrefix rfl (Nat.le_of_ble_eq_true rfl) (by omega) (by omega) (by omega) ?_
  refine zs_if_ne (pc := 5) 19 dX_requirePrefix_5 rfl (fun h9 => absurd h9 (by decide)) (fun _ => ?_)
  exact zs_throwW (pc := 8) (text := "no such prefix") thIA (by decide) rfl dX_requirePrefix_8 dX_requirePrefix_11 dX_requirePrefix_12 dX_requirePrefix_15 dX_requirePrefix_18 (Nat.le_of_ble_eq_true rfl) (by omega) (by omega) (fun n2 hn2 => ⟨rfl, rfl, by omega⟩)

