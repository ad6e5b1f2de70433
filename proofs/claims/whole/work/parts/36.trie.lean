/-! the trie -/
theorem lp_A_fill {Γ : zG} {l : Launch} (hl : l.stackTraces = false) {d : Nat} {h : zH} {n : Nat} {a N v : Nat} {u : Nat → Nat} (hN : N < 2 ^ 31) : ∀ i j, i + j = N → Z Γ l mA_fill d 0 0 (zFin Γ (zR none (zu h a (zAr 0 N (fun _ => v))) n) 0 0) 5 [some (.ref a), some (.int (nI v)), some (.int (nI j)), some (.int (nI N))] [] (zu h a (zAr 0 N (fun q => if q < j then v else u q))) n 0 0 := by
  intro i
  induction i with
  | zero =>
    intro j hj
    refine zs_iload_n (pc := 5) dA_fill_5 rfl ?_
    refine zs_iload_n (pc := 6) dA_fill_6 rfl ?_
    refine zn_icmp_ge (pc := 7) 20 dA_fill_7 rfl (by omega) (by omega) (fun _ => ?_) (fun h9 => absurd h9 (by omega))
    refine zs_extn (fun _ => v) zu_s (fun q hq => if_pos (by omega)) ?_
    rw [zu_zu]
    exact zs_vret (pc := 20) dA_fill_20 rfl (by omega) (by omega) (⟨rfl, rfl, rfl⟩)
  | succ i ih =>
    intro j hj
    refine zs_iload_n (pc := 5) dA_fill_5 rfl ?_
    refine zs_iload_n (pc := 6) dA_fill_6 rfl ?_
    refine zn_icmp_ge (pc := 7) 20 dA_fill_7 rfl (by omega) (by omega) (fun h9 => absurd h9 (by omega)) (fun _ => ?_)
    refine zs_aload_n (pc := 10) dA_fill_10 rfl ?_
    refine zs_iload_n (pc := 11) dA_fill_11 rfl ?_
    refine zs_iload_n (pc := 12) dA_fill_12 rfl ?_
    refine zn_iastU (pc := 13) dA_fill_13 (by omega) (by first | decide | assumption) ?_
    refine zn_iinc (pc := 14) (ls2 := [_, _, _, _]) dA_fill_14 rfl (Nat.le_of_ble_eq_true rfl) rfl ?_
    refine zs_goto (pc := 17) 5 dA_fill_17 rfl ?_
    have hz := ih (j + 1) (by omega)
    have e : zup (fun q => if q < j then v else u q) j v = (fun q => if q < j + 1 then v else u q) := by
      funext q
      unfold zup
      show (if q = j then v else if q < j then v else u q) = if q < j + 1 then v else u q
      (repeat' split) <;> first | rfl | (exfalso; omega) | (congr 1; omega) | omega
    rw [e]
    exact hz
theorem s_A_fill {Γ : zG} {l : Launch} (hl : l.stackTraces = false) {d : Nat} {h : zH} {n : Nat} {a N v : Nat} {u : Nat → Nat} (hN : N < 2 ^ 31) (ha : h a = some (zAr 0 N u)) : zC Γ l d mA_fill [.ref a, .int (nI v)] h n 0 0 (zR none (zu h a (zAr 0 N (fun _ => v))) n) := by
  have h9 := lp_A_fill (Γ := Γ) hl (d := d) (h := h) (n := n) (a := a) (v := v) (u := u) hN N 0 (by omega)
  have e : (fun q => if q < 0 then v else u q) = u := by
    funext q
    exact if_neg (by omega)
  rw [e, zu_id ha] at h9
  refine zC_of (ls := [some (.ref a), some (.int (nI v)), none, none]) hl (by decide +kernel) rfl (Nat.le_of_ble_eq_true rfl) rfl ?_
  refine zs_iconst (pc := 0) dA_fill_0 zi_0 ?_
  refine zs_istore_n (pc := 1) (ls2 := [_, _, _, _]) dA_fill_1 (Nat.le_of_ble_eq_true rfl) rfl ?_
  refine zs_aload_n (pc := 2) dA_fill_2 rfl ?_
  refine zs_alen (pc := 3) dA_fill_3 (by exact ha) ?_
  refine zs_istore_n (pc := 4) (ls2 := [_, _, _, _]) dA_fill_4 (Nat.le_of_ble_eq_true rfl) rfl ?_
  exact h9
/-- the digit at a place -/
def zdg (v k : Nat) : Nat := if k = 0 then v / 100 % 10 else if k = 1 then v / 10 % 10 else v % 10
theorem s_T_digitAt {Γ : zG} {l : Launch} (hl : l.stackTraces = false) {d : Nat} {h : zH} {n : Nat} {v k : Nat} (hv : v < 2 ^ 31) (hk : k ≤ 3) : zC Γ l d mT_digitAt [.int (nI v), .int (nI k)] h n 0 0 (zR (some (.int (nI (zdg v k)))) h n) := by
  refine zC_of (ls := [some (.int (nI v)), some (.int (nI k))]) hl (by decide +kernel) rfl (Nat.le_of_ble_eq_true rfl) rfl ?_
  match k, hk with
  | 0, _ =>
    refine zs_iload_n (pc := 0) dT_digitAt_0 rfl ?_
    refine zs_lookup (pc := 1) 28 dT_digitAt_1 rfl (by rfl) rfl ?_
    refine zs_iload_n (pc := 28) dT_digitAt_28 rfl ?_
    refine zs_bipush (pc := 29) dT_digitAt_29 (zi_b 100 (by decide)) ?_
    refine zn_idiv (pc := 31) dT_digitAt_31 (by omega) (by omega) (by omega) ?_
    refine zs_bipush (pc := 32) dT_digitAt_32 (zi_b 10 (by decide)) ?_
    refine zn_irem (pc := 34) dT_digitAt_34 (by omega) (by omega) (by omega) ?_
    exact zs_iret (pc := 35) dT_digitAt_35 rfl rfl (by omega) (by omega) (⟨rfl, rfl, rfl⟩)
  | 1, _ =>
    refine zs_iload_n (pc := 0) dT_digitAt_0 rfl ?_
    refine zs_lookup (pc := 1) 36 dT_digitAt_1 rfl (by rfl) rfl ?_
    refine zs_iload_n (pc := 36) dT_digitAt_36 rfl ?_
    refine zs_bipush (pc := 37) dT_digitAt_37 (zi_b 10 (by decide)) ?_
    refine zn_idiv (pc := 39) dT_digitAt_39 (by omega) (by omega) (by omega) ?_
    refine zs_bipush (pc := 40) dT_digitAt_40 (zi_b 10 (by decide)) ?_
    refine zn_irem (pc := 42) dT_digitAt_42 (by omega) (by omega) (by omega) ?_
    exact zs_iret (pc := 43) dT_digitAt_43 rfl rfl (by omega) (by omega) (⟨rfl, rfl, rfl⟩)
  | 2, _ =>
    refine zs_iload_n (pc := 0) dT_digitAt_0 rfl ?_
    refine zs_lookup (pc := 1) 44 dT_digitAt_1 rfl (by rfl) rfl ?_
    refine zs_iload_n (pc := 44) dT_digitAt_44 rfl ?_
    refine zs_bipush (pc := 45) dT_digitAt_45 (zi_b 10 (by decide)) ?_
    refine zn_irem (pc := 47) dT_digitAt_47 (by omega) (by omega) (by omega) ?_
    exact zs_iret (pc := 48) dT_digitAt_48 rfl rfl (by omega) (by omega) (⟨rfl, rfl, rfl⟩)
  | 3, _ =>
    refine zs_iload_n (pc := 0) dT_digitAt_0 rfl ?_
    refine zs_lookup (pc := 1) 44 dT_digitAt_1 rfl (by rfl) rfl ?_
    refine zs_iload_n (pc := 44) dT_digitAt_44 rfl ?_
    refine zs_bipush (pc := 45) dT_digitAt_45 (zi_b 10 (by decide)) ?_
    refine zn_irem (pc := 47) dT_digitAt_47 (by omega) (by omega) (by omega) ?_
    exact zs_iret (pc := 48) dT_digitAt_48 rfl rfl (by omega) (by omega) (⟨rfl, rfl, rfl⟩)
  | k + 4, hk => exact absurd hk (by omega)
theorem s_T_child {Γ : zG} {l : Launch} (hl : l.stackTraces = false) {d : Nat} {h : zH} {n : Nat} {a b : Nat} : zC Γ l d mT_child [.int (nI a), .int (nI b)] h n 0 0 (zR (some (.int (nI (10 * a + b + 1)))) h n) := by
  refine zC_of (ls := [some (.int (nI a)), some (.int (nI b))]) hl (by decide +kernel) rfl (Nat.le_of_ble_eq_true rfl) rfl ?_
  refine zs_bipush (pc := 0) dT_child_0 (zi_b 10 (by decide)) ?_
  refine zs_iload_n (pc := 2) dT_child_2 rfl ?_
  refine zn_imul (pc := 3) dT_child_3 ?_
  refine zs_iload_n (pc := 4) dT_child_4 rfl ?_
  refine zn_iadd (pc := 5) dT_child_5 ?_
  refine zs_iconst (pc := 6) dT_child_6 zi_1 ?_
  refine zn_iadd (pc := 7) dT_child_7 ?_
  exact zs_iret (pc := 8) dT_child_8 rfl rfl (by omega) (by omega) (⟨rfl, rfl, rfl⟩)
/-- the node of a prefix -/
def ztn (dn v : Nat) : Nat := if dn = 0 then 0 else if dn = 1 then 1 + v else if dn = 2 then 11 + v else 111 + v
theorem ztn_lt {dn v : Nat} (h1 : dn ≤ 3) (h2 : v < 10 ^ dn) : ztn dn v < 1111 := by
  have h3 := z10 h1
  match dn, h1 with
  | 0, _ => exact (by decide : (0 : Nat) < 1111)
  | 1, _ => show 1 + v < 1111; omega
  | 2, _ => show 11 + v < 1111; omega
  | 3, _ => show 111 + v < 1111; omega
  | k + 4, h1 => exact absurd h1 (by omega)
theorem s_T_nodeOf {Γ : zG} {l : Launch} (hl : l.stackTraces = false) {d : Nat} (hd : 1 ≤ d) {h : zH} {n : Nat} {dn v : Nat} (h1 : dn ≤ 3) (h2 : v < 10 ^ dn) : zC Γ l d mT_nodeOf [.int (nI dn), .int (nI v)] h n 0 0 (zR (some (.int (nI (ztn dn v)))) h n) := by
  have h3 := z10 h1
  refine zC_of (ls := [some (.int (nI dn)), some (.int (nI v)), none, none]) hl (by decide +kernel) rfl (Nat.le_of_ble_eq_true rfl) rfl ?_
  match dn, h1 with
  | 0, _ =>
    refine zs_iconst (pc := 0) dT_nodeOf_0 zi_0 ?_
    refine zs_istore_n (pc := 1) (ls2 := [_, _, _, _]) dT_nodeOf_1 (Nat.le_of_ble_eq_true rfl) rfl ?_
    refine zs_iconst (pc := 2) dT_nodeOf_2 zi_3 ?_
    refine zs_iload_n (pc := 3) dT_nodeOf_3 rfl ?_
    refine zn_isub (pc := 4) dT_nodeOf_4 (by omega) ?_
    refine zs_istore_n (pc := 5) (ls2 := [_, _, _, _]) dT_nodeOf_5 (Nat.le_of_ble_eq_true rfl) rfl ?_
    refine zs_iload_n (pc := 6) dT_nodeOf_6 rfl ?_
    refine zs_iconst (pc := 7) dT_nodeOf_7 zi_3 ?_
    refine zn_icmp_ge (pc := 8) 27 dT_nodeOf_8 rfl (by omega) (by omega) (fun _ => ?_) (fun h9 => absurd h9 (by omega))
    refine zs_iload_n (pc := 27) dT_nodeOf_27 rfl ?_
    exact zs_iret (pc := 28) dT_nodeOf_28 rfl rfl (by omega) (by omega) (⟨rfl, rfl, rfl⟩)
  | 1, _ =>
    refine zs_iconst (pc := 0) dT_nodeOf_0 zi_0 ?_
    refine zs_istore_n (pc := 1) (ls2 := [_, _, _, _]) dT_nodeOf_1 (Nat.le_of_ble_eq_true rfl) rfl ?_
    refine zs_iconst (pc := 2) dT_nodeOf_2 zi_3 ?_
    refine zs_iload_n (pc := 3) dT_nodeOf_3 rfl ?_
    refine zn_isub (pc := 4) dT_nodeOf_4 (by omega) ?_
    refine zs_istore_n (pc := 5) (ls2 := [_, _, _, _]) dT_nodeOf_5 (Nat.le_of_ble_eq_true rfl) rfl ?_
    refine zs_iload_n (pc := 6) dT_nodeOf_6 rfl ?_
    refine zs_iconst (pc := 7) dT_nodeOf_7 zi_3 ?_
    refine zn_icmp_ge (pc := 8) 27 dT_nodeOf_8 rfl (by omega) (by omega) (fun h9 => absurd h9 (by omega)) (fun _ => ?_)
    refine zs_iload_n (pc := 11) dT_nodeOf_11 rfl ?_
    refine zs_iload_n (pc := 12) dT_nodeOf_12 rfl ?_
    refine zs_iload_n (pc := 13) dT_nodeOf_13 rfl ?_
    refine zcS1_2 (pc := 14) (d2 := d - 1) (s_T_digitAt hl (by omega) (by omega)) dT_nodeOf_14 kT_18 mdT_digitAt msT_digitAt rfl (Nat.le_of_ble_eq_true rfl) (by omega) (by omega) (by omega) ?_
    refine zcS1_2 (pc := 17) (d2 := d - 1) (s_T_child hl) dT_nodeOf_17 kT_22 mdT_child msT_child rfl (Nat.le_of_ble_eq_true rfl) (by omega) (by omega) (by omega) ?_
    refine zs_istore_n (pc := 20) (ls2 := [_, _, _, _]) dT_nodeOf_20 (Nat.le_of_ble_eq_true rfl) rfl ?_
    refine zn_iinc (pc := 21) (ls2 := [_, _, _, _]) dT_nodeOf_21 rfl (Nat.le_of_ble_eq_true rfl) rfl ?_
    refine zs_goto (pc := 24) 6 dT_nodeOf_24 rfl ?_
    refine zs_iload_n (pc := 6) dT_nodeOf_6 rfl ?_
    refine zs_iconst (pc := 7) dT_nodeOf_7 zi_3 ?_
    refine zn_icmp_ge (pc := 8) 27 dT_nodeOf_8 rfl (by omega) (by omega) (fun _ => ?_) (fun h9 => absurd h9 (by omega))
    refine zs_iload_n (pc := 27) dT_nodeOf_27 rfl ?_
    have e : 10 * 0 + zdg v (3 - 1) + 1 = ztn 1 v := by
      show 10 * 0 + v % 10 + 1 = 1 + v
      omega
    rw [e]
    exact zs_iret (pc := 28) dT_nodeOf_28 rfl rfl (by omega) (by omega) (⟨rfl, rfl, rfl⟩)
  | 2, _ =>
    refine zs_iconst (pc := 0) dT_nodeOf_0 zi_0 ?_
    refine zs_istore_n (pc := 1) (ls2 := [_, _, _, _]) dT_nodeOf_1 (Nat.le_of_ble_eq_true rfl) rfl ?_
    refine zs_iconst (pc := 2) dT_nodeOf_2 zi_3 ?_
    refine zs_iload_n (pc := 3) dT_nodeOf_3 rfl ?_
    refine zn_isub (pc := 4) dT_nodeOf_4 (by omega) ?_
    refine zs_istore_n (pc := 5) (ls2 := [_, _, _, _]) dT_nodeOf_5 (Nat.le_of_ble_eq_true rfl) rfl ?_
    refine zs_iload_n (pc := 6) dT_nodeOf_6 rfl ?_
    refine zs_iconst (pc := 7) dT_nodeOf_7 zi_3 ?_
    refine zn_icmp_ge (pc := 8) 27 dT_nodeOf_8 rfl (by omega) (by omega) (fun h9 => absurd h9 (by omega)) (fun _ => ?_)
    refine zs_iload_n (pc := 11) dT_nodeOf_11 rfl ?_
    refine zs_iload_n (pc := 12) dT_nodeOf_12 rfl ?_
    refine zs_iload_n (pc := 13) dT_nodeOf_13 rfl ?_
    refine zcS1_2 (pc := 14) (d2 := d - 1) (s_T_digitAt hl (by omega) (by omega)) dT_nodeOf_14 kT_18 mdT_digitAt msT_digitAt rfl (Nat.le_of_ble_eq_true rfl) (by omega) (by omega) (by omega) ?_
    refine zcS1_2 (pc := 17) (d2 := d - 1) (s_T_child hl) dT_nodeOf_17 kT_22 mdT_child msT_child rfl (Nat.le_of_ble_eq_true rfl) (by omega) (by omega) (by omega) ?_
    refine zs_istore_n (pc := 20) (ls2 := [_, _, _, _]) dT_nodeOf_20 (Nat.le_of_ble_eq_true rfl) rfl ?_
    refine zn_iinc (pc := 21) (ls2 := [_, _, _, _]) dT_nodeOf_21 rfl (Nat.le_of_ble_eq_true rfl) rfl ?_
    refine zs_goto (pc := 24) 6 dT_nodeOf_24 rfl ?_
    refine zs_iload_n (pc := 6) dT_nodeOf_6 rfl ?_
    refine zs_iconst (pc := 7) dT_nodeOf_7 zi_3 ?_
    refine zn_icmp_ge (pc := 8) 27 dT_nodeOf_8 rfl (by omega) (by omega) (fun h9 => absurd h9 (by omega)) (fun _ => ?_)
    refine zs_iload_n (pc := 11) dT_nodeOf_11 rfl ?_
    refine zs_iload_n (pc := 12) dT_nodeOf_12 rfl ?_
    refine zs_iload_n (pc := 13) dT_nodeOf_13 rfl ?_
    refine zcS1_2 (pc := 14) (d2 := d - 1) (s_T_digitAt hl (by omega) (by omega)) dT_nodeOf_14 kT_18 mdT_digitAt msT_digitAt rfl (Nat.le_of_ble_eq_true rfl) (by omega) (by omega) (by omega) ?_
    refine zcS1_2 (pc := 17) (d2 := d - 1) (s_T_child hl) dT_nodeOf_17 kT_22 mdT_child msT_child rfl (Nat.le_of_ble_eq_true rfl) (by omega) (by omega) (by omega) ?_
    refine zs_istore_n (pc := 20) (ls2 := [_, _, _, _]) dT_nodeOf_20 (Nat.le_of_ble_eq_true rfl) rfl ?_
    refine zn_iinc (pc := 21) (ls2 := [_, _, _, _]) dT_nodeOf_21 rfl (Nat.le_of_ble_eq_true rfl) rfl ?_
    refine zs_goto (pc := 24) 6 dT_nodeOf_24 rfl ?_
    refine zs_iload_n (pc := 6) dT_nodeOf_6 rfl ?_
    refine zs_iconst (pc := 7) dT_nodeOf_7 zi_3 ?_
    refine zn_icmp_ge (pc := 8) 27 dT_nodeOf_8 rfl (by omega) (by omega) (fun _ => ?_) (fun h9 => absurd h9 (by omega))
    refine zs_iload_n (pc := 27) dT_nodeOf_27 rfl ?_
    have e : 10 * (10 * 0 + zdg v (3 - 2) + 1) + zdg v (3 - 2 + 1) + 1 = ztn 2 v := by
      show 10 * (10 * 0 + v / 10 % 10 + 1) + v % 10 + 1 = 11 + v
      omega
    rw [e]
    exact zs_iret (pc := 28) dT_nodeOf_28 rfl rfl (by omega) (by omega) (⟨rfl, rfl, rfl⟩)
  | 3, _ =>
    refine zs_iconst (pc := 0) dT_nodeOf_0 zi_0 ?_
    refine zs_istore_n (pc := 1) (ls2 := [_, _, _, _]) dT_nodeOf_1 (Nat.le_of_ble_eq_true rfl) rfl ?_
    refine zs_iconst (pc := 2) dT_nodeOf_2 zi_3 ?_
    refine zs_iload_n (pc := 3) dT_nodeOf_3 rfl ?_
    refine zn_isub (pc := 4) dT_nodeOf_4 (by omega) ?_
    refine zs_istore_n (pc := 5) (ls2 := [_, _, _, _]) dT_nodeOf_5 (Nat.le_of_ble_eq_true rfl) rfl ?_
    refine zs_iload_n (pc := 6) dT_nodeOf_6 rfl ?_
    refine zs_iconst (pc := 7) dT_nodeOf_7 zi_3 ?_
    refine zn_icmp_ge (pc := 8) 27 dT_nodeOf_8 rfl (by omega) (by omega) (fun h9 => absurd h9 (by omega)) (fun _ => ?_)
    refine zs_iload_n (pc := 11) dT_nodeOf_11 rfl ?_
    refine zs_iload_n (pc := 12) dT_nodeOf_12 rfl ?_
    refine zs_iload_n (pc := 13) dT_nodeOf_13 rfl ?_
    refine zcS1_2 (pc := 14) (d2 := d - 1) (s_T_digitAt hl (by omega) (by omega)) dT_nodeOf_14 kT_18 mdT_digitAt msT_digitAt rfl (Nat.le_of_ble_eq_true rfl) (by omega) (by omega) (by omega) ?_
    refine zcS1_2 (pc := 17) (d2 := d - 1) (s_T_child hl) dT_nodeOf_17 kT_22 mdT_child msT_child rfl (Nat.le_of_ble_eq_true rfl) (by omega) (by omega) (by omega) ?_
    refine zs_istore_n (pc := 20) (ls2 := [_, _, _, _]) dT_nodeOf_20 (Nat.le_of_ble_eq_true rfl) rfl ?_
    refine zn_iinc (pc := 21) (ls2 := [_, _, _, _]) dT_nodeOf_21 rfl (Nat.le_of_ble_eq_true rfl) rfl ?_
    refine zs_goto (pc := 24) 6 dT_nodeOf_24 rfl ?_
    refine zs_iload_n (pc := 6) dT_nodeOf_6 rfl ?_
    refine zs_iconst (pc := 7) dT_nodeOf_7 zi_3 ?_
    refine zn_icmp_ge (pc := 8) 27 dT_nodeOf_8 rfl (by omega) (by omega) (fun h9 => absurd h9 (by omega)) (fun _ => ?_)
    refine zs_iload_n (pc := 11) dT_nodeOf_11 rfl ?_
    refine zs_iload_n (pc := 12) dT_nodeOf_12 rfl ?_
    refine zs_iload_n (pc := 13) dT_nodeOf_13 rfl ?_
    refine zcS1_2 (pc := 14) (d2 := d - 1) (s_T_digitAt hl (by omega) (by omega)) dT_nodeOf_14 kT_18 mdT_digitAt msT_digitAt rfl (Nat.le_of_ble_eq_true rfl) (by omega) (by omega) (by omega) ?_
    refine zcS1_2 (pc := 17) (d2 := d - 1) (s_T_child hl) dT_nodeOf_17 kT_22 mdT_child msT_child rfl (Nat.le_of_ble_eq_true rfl) (by omega) (by omega) (by omega) ?_
    refine zs_istore_n (pc := 20) (ls2 := [_, _, _, _]) dT_nodeOf_20 (Nat.le_of_ble_eq_true rfl) rfl ?_
    refine zn_iinc (pc := 21) (ls2 := [_, _, _, _]) dT_nodeOf_21 rfl (Nat.le_of_ble_eq_true rfl) rfl ?_
    refine zs_goto (pc := 24) 6 dT_nodeOf_24 rfl ?_
    refine zs_iload_n (pc := 6) dT_nodeOf_6 rfl ?_
    refine zs_iconst (pc := 7) dT_nodeOf_7 zi_3 ?_
    refine zn_icmp_ge (pc := 8) 27 dT_nodeOf_8 rfl (by omega) (by omega) (fun h9 => absurd h9 (by omega)) (fun _ => ?_)
    refine zs_iload_n (pc := 11) dT_nodeOf_11 rfl ?_
    refine zs_iload_n (pc := 12) dT_nodeOf_12 rfl ?_
    refine zs_iload_n (pc := 13) dT_nodeOf_13 rfl ?_
    refine zcS1_2 (pc := 14) (d2 := d - 1) (s_T_digitAt hl (by omega) (by omega)) dT_nodeOf_14 kT_18 mdT_digitAt msT_digitAt rfl (Nat.le_of_ble_eq_true rfl) (by omega) (by omega) (by omega) ?_
    refine zcS1_2 (pc := 17) (d2 := d - 1) (s_T_child hl) dT_nodeOf_17 kT_22 mdT_child msT_child rfl (Nat.le_of_ble_eq_true rfl) (by omega) (by omega) (by omega) ?_
    refine zs_istore_n (pc := 20) (ls2 := [_, _, _, _]) dT_nodeOf_20 (Nat.le_of_ble_eq_true rfl) rfl ?_
    refine zn_iinc (pc := 21) (ls2 := [_, _, _, _]) dT_nodeOf_21 rfl (Nat.le_of_ble_eq_true rfl) rfl ?_
    refine zs_goto (pc := 24) 6 dT_nodeOf_24 rfl ?_
    refine zs_iload_n (pc := 6) dT_nodeOf_6 rfl ?_
    refine zs_iconst (pc := 7) dT_nodeOf_7 zi_3 ?_
    refine zn_icmp_ge (pc := 8) 27 dT_nodeOf_8 rfl (by omega) (by omega) (fun _ => ?_) (fun h9 => absurd h9 (by omega))
    refine zs_iload_n (pc := 27) dT_nodeOf_27 rfl ?_
    have e : 10 * (10 * (10 * 0 + zdg v (3 - 3) + 1) + zdg v (3 - 3 + 1) + 1) + zdg v (3 - 3 + 1 + 1) + 1 = ztn 3 v := by
      show 10 * (10 * (10 * 0 + v / 100 % 10 + 1) + v / 10 % 10 + 1) + v % 10 + 1 = 111 + v
      omega
    rw [e]
    exact zs_iret (pc := 28) dT_nodeOf_28 rfl rfl (by omega) (by omega) (⟨rfl, rfl, rfl⟩)
  | k + 4, h1 => exact absurd h1 (by omega)
def zTo (t : Nat) : zE := .inr (6, [.ref (t + 1), .ref (t + 2)])
def TH (h : zH) (t : Nat) (E C : Nat → Nat) : Prop := h t = some (zTo t) ∧ h (t + 1) = some (zAr 0 1111 E) ∧ h (t + 2) = some (zAr 0 1111 C)
theorem TH.fr {h h1 : zH} {t r m : Nat} {E C : Nat → Nat} (hT : TH h t E C) (hf : zfr r m h h1) (hd : t + 3 ≤ r ∨ r + m ≤ t) : TH h1 t E C := by
  obtain ⟨g1, g2, g3⟩ := hT
  exact ⟨by rw [hf _ (by omega)]; exact g1, by rw [hf _ (by omega)]; exact g2, by rw [hf _ (by omega)]; exact g3⟩
theorem s_T_entriesAt {Γ : zG} {l : Launch} (hl : l.stackTraces = false) {d : Nat} {h : zH} {n : Nat} {t x : Nat} {E C : Nat → Nat} (hT : TH h t E C) (hx : x < 1111) : zC Γ l d mT_entriesAt [.ref t, .int (nI x)] h n 0 0 (zR (some (.int (nI (E x)))) h n) := by
  refine zC_of (ls := [some (.ref t), some (.int (nI x))]) hl (by decide +kernel) rfl (Nat.le_of_ble_eq_true rfl) rfl ?_
  refine zs_iload_n (pc := 0) dT_entriesAt_0 rfl ?_
  refine zs_if_lt (pc := 1) 20 dT_entriesAt_1 rfl (fun h9 => absurd h9 (nI_pos (by omega))) (fun _ => ?_)
  refine zs_iload_n (pc := 4) dT_entriesAt_4 rfl ?_
  refine zs_sipush (pc := 5) dT_entriesAt_5 (zi_s 1111 (by decide)) ?_
  refine zn_icmp_ge (pc := 8) 20 dT_entriesAt_8 rfl (by omega) (by omega) (fun h9 => absurd h9 (by omega)) (fun _ => ?_)
  refine zs_aload_n (pc := 11) dT_entriesAt_11 rfl ?_
  refine zs_get (pc := 12) dT_entriesAt_12 fT_11 (by first | exact hT.1 | exact hT.2.1) (by rfl) ?_
  refine zs_iload_n (pc := 15) dT_entriesAt_15 rfl ?_
  refine zn_iald (pc := 16) dT_entriesAt_16 (by first | exact hT.1 | exact hT.2.1) (by omega) (by first | decide | assumption) ?_
  refine zs_goto (pc := 17) 21 dT_entriesAt_17 rfl ?_
  exact zs_iret (pc := 21) dT_entriesAt_21 rfl rfl (by omega) (by omega) (⟨rfl, rfl, rfl⟩)
theorem s_T_codesAt {Γ : zG} {l : Launch} (hl : l.stackTraces = false) {d : Nat} {h : zH} {n : Nat} {t x : Nat} {E C : Nat → Nat} (hT : TH h t E C) (hx : x < 1111) : zC Γ l d mT_codesAt [.ref t, .int (nI x)] h n 0 0 (zR (some (.int (nI (C x)))) h n) := by
  refine zC_of (ls := [some (.ref t), some (.int (nI x))]) hl (by decide +kernel) rfl (Nat.le_of_ble_eq_true rfl) rfl ?_
  refine zs_iload_n (pc := 0) dT_codesAt_0 rfl ?_
  refine zs_if_lt (pc := 1) 20 dT_codesAt_1 rfl (fun h9 => absurd h9 (nI_pos (by omega))) (fun _ => ?_)
  refine zs_iload_n (pc := 4) dT_codesAt_4 rfl ?_
  refine zs_sipush (pc := 5) dT_codesAt_5 (zi_s 1111 (by decide)) ?_
  refine zn_icmp_ge (pc := 8) 20 dT_codesAt_8 rfl (by omega) (by omega) (fun h9 => absurd h9 (by omega)) (fun _ => ?_)
  refine zs_aload_n (pc := 11) dT_codesAt_11 rfl ?_
  refine zs_get (pc := 12) dT_codesAt_12 fT_15 (by first | exact hT.1 | exact hT.2.2) (by rfl) ?_
  refine zs_iload_n (pc := 15) dT_codesAt_15 rfl ?_
  refine zn_iald (pc := 16) dT_codesAt_16 (by first | exact hT.1 | exact hT.2.2) (by omega) (by first | decide | assumption) ?_
  refine zs_goto (pc := 17) 21 dT_codesAt_17 rfl ?_
  exact zs_iret (pc := 21) dT_codesAt_21 rfl rfl (by omega) (by omega) (⟨rfl, rfl, rfl⟩)
theorem lp_T_branchesAt {Γ : zG} {l : Launch} (hl : l.stackTraces = false) {d : Nat} (hd : 1 ≤ d) {h : zH} {n : Nat} {t x : Nat} {E C : Nat → Nat} (hT : TH h t E C) (hx : x < 111) (hC : ∀ q, C q < 2 ^ 31) : ∀ i j, i + j = 10 → Z Γ l mT_branchesAt d 0 0 (zFin Γ (zR (some (.int (nI (zcnt (fun q => decide (0 < C (10 * x + q + 1))) 10)))) h n) 0 0) 4 [some (.ref t), some (.int (nI x)), some (.int (nI (zcnt (fun q => decide (0 < C (10 * x + q + 1))) j))), some (.int (nI j))] [] h n 0 0 := by
  intro i
  induction i with
  | zero =>
    intro j hj
    obtain rfl : j = 10 := by omega
    refine zs_iload_n (pc := 4) dT_branchesAt_4 rfl ?_
    refine zs_bipush (pc := 5) dT_branchesAt_5 (zi_b 10 (by decide)) ?_
    refine zn_icmp_ge (pc := 7) 31 dT_branchesAt_7 rfl (by omega) (by omega) (fun _ => ?_) (fun h9 => absurd h9 (by omega))
    refine zs_iload_n (pc := 31) dT_branchesAt_31 rfl ?_
    exact zs_iret (pc := 32) dT_branchesAt_32 rfl rfl (by omega) (by omega) (⟨rfl, rfl, rfl⟩)
  | succ i ih =>
    intro j hj
    have hz := ih (j + 1) (by omega)
    have hc := hC (10 * x + j + 1)
    by_cases e : 0 < C (10 * x + j + 1)
    · rw [zcnt_t (p := fun q => decide (0 < C (10 * x + q + 1))) (decide_eq_true e)] at hz
      refine zs_iload_n (pc := 4) dT_branchesAt_4 rfl ?_
      refine zs_bipush (pc := 5) dT_branchesAt_5 (zi_b 10 (by decide)) ?_
      refine zn_icmp_ge (pc := 7) 31 dT_branchesAt_7 rfl (by omega) (by omega) (fun h9 => absurd h9 (by omega)) (fun _ => ?_)
      refine zs_aload_n (pc := 10) dT_branchesAt_10 rfl ?_
      refine zs_iload_n (pc := 11) dT_branchesAt_11 rfl ?_
      refine zs_iload_n (pc := 12) dT_branchesAt_12 rfl ?_
      refine zcS1_2 (pc := 13) (d2 := d - 1) (s_T_child hl) dT_branchesAt_13 kT_22 mdT_child msT_child rfl (Nat.le_of_ble_eq_true rfl) (by omega) (by omega) (by omega) ?_
      refine zcV1_1 (pc := 16) (d2 := d - 1) (s_T_codesAt hl hT (by omega)) dT_branchesAt_16 kT_25 mdT_codesAt miT_codesAt mvT_codesAt rfl (by exact hT.1) rfl (Nat.le_of_ble_eq_true rfl) (by omega) (by omega) (by omega) ?_
      refine zn_if_le (pc := 19) 25 dT_branchesAt_19 rfl (by omega) (fun h9 => absurd h9 (by omega)) (fun _ => ?_)
      refine zn_iinc (pc := 22) (ls2 := [_, _, _, _]) dT_branchesAt_22 rfl (Nat.le_of_ble_eq_true rfl) rfl ?_
      refine zn_iinc (pc := 25) (ls2 := [_, _, _, _]) dT_branchesAt_25 rfl (Nat.le_of_ble_eq_true rfl) rfl ?_
      refine zs_goto (pc := 28) 4 dT_branchesAt_28 rfl ?_
      exact hz
    · rw [zcnt_f (p := fun q => decide (0 < C (10 * x + q + 1))) (decide_eq_false e)] at hz
      refine zs_iload_n (pc := 4) dT_branchesAt_4 rfl ?_
      refine zs_bipush (pc := 5) dT_branchesAt_5 (zi_b 10 (by decide)) ?_
      refine zn_icmp_ge (pc := 7) 31 dT_branchesAt_7 rfl (by omega) (by omega) (fun h9 => absurd h9 (by omega)) (fun _ => ?_)
      refine zs_aload_n (pc := 10) dT_branchesAt_10 rfl ?_
      refine zs_iload_n (pc := 11) dT_branchesAt_11 rfl ?_
      refine zs_iload_n (pc := 12) dT_branchesAt_12 rfl ?_
      refine zcS1_2 (pc := 13) (d2 := d - 1) (s_T_child hl) dT_branchesAt_13 kT_22 mdT_child msT_child rfl (Nat.le_of_ble_eq_true rfl) (by omega) (by omega) (by omega) ?_
      refine zcV1_1 (pc := 16) (d2 := d - 1) (s_T_codesAt hl hT (by omega)) dT_branchesAt_16 kT_25 mdT_codesAt miT_codesAt mvT_codesAt rfl (by exact hT.1) rfl (Nat.le_of_ble_eq_true rfl) (by omega) (by omega) (by omega) ?_
      refine zn_if_le (pc := 19) 25 dT_branchesAt_19 rfl (by omega) (fun _ => ?_) (fun h9 => absurd h9 (by omega))
      refine zn_iinc (pc := 25) (ls2 := [_, _, _, _]) dT_branchesAt_25 rfl (Nat.le_of_ble_eq_true rfl) rfl ?_
      refine zs_goto (pc := 28) 4 dT_branchesAt_28 rfl ?_
      exact hz
theorem s_T_branchesAt {Γ : zG} {l : Launch} (hl : l.stackTraces = false) {d : Nat} (hd : 1 ≤ d) {h : zH} {n : Nat} {t x : Nat} {E C : Nat → Nat} (hT : TH h t E C) (hx : x < 111) (hC : ∀ q, C q < 2 ^ 31) : zC Γ l d mT_branchesAt [.ref t, .int (nI x)] h n 0 0 (zR (some (.int (nI (zcnt (fun q => decide (0 < C (10 * x + q + 1))) 10)))) h n) := by
  refine zC_of (ls := [some (.ref t), some (.int (nI x)), none, none]) hl (by decide +kernel) rfl (Nat.le_of_ble_eq_true rfl) rfl ?_
  refine zs_iconst (pc := 0) dT_branchesAt_0 zi_0 ?_
  refine zs_istore_n (pc := 1) (ls2 := [_, _, _, _]) dT_branchesAt_1 (Nat.le_of_ble_eq_true rfl) rfl ?_
  refine zs_iconst (pc := 2) dT_branchesAt_2 zi_0 ?_
  refine zs_istore_n (pc := 3) (ls2 := [_, _, _, _]) dT_branchesAt_3 (Nat.le_of_ble_eq_true rfl) rfl ?_
  exact lp_T_branchesAt hl hd hT hx hC 10 0 rfl
/-- the node that a code has at a depth -/
def znd (c k : Nat) : Nat := if k = 0 then 0 else if k = 1 then 1 + c / 100 else if k = 2 then 11 + c / 10 else if k = 3 then 111 + c else 10 * (111 + c) + c % 10 + 1
theorem znd_s {c k : Nat} (hc : c < 1000) (hk : k ≤ 3) : 10 * znd c k + zdg c k + 1 = znd c (k + 1) := by
  match k, hk with
  | 0, _ => show 10 * 0 + c / 100 % 10 + 1 = 1 + c / 100; omega
  | 1, _ => show 10 * (1 + c / 100) + c / 10 % 10 + 1 = 11 + c / 10; omega
  | 2, _ => show 10 * (11 + c / 10) + c % 10 + 1 = 111 + c; omega
  | 3, _ => show 10 * (111 + c) + c % 10 + 1 = 10 * (111 + c) + c % 10 + 1; rfl
  | k + 4, hk => exact absurd hk (by omega)
theorem znd_lt {c k : Nat} (hc : c < 1000) (hk : k ≤ 3) : znd c k < 1111 := by
  match k, hk with
  | 0, _ => show 0 < 1111; decide
  | 1, _ => show 1 + c / 100 < 1111; omega
  | 2, _ => show 11 + c / 10 < 1111; omega
  | 3, _ => show 111 + c < 1111; omega
  | k + 4, hk => exact absurd hk (by omega)
/-- how far a code is met -/
def zreach (C : Nat → Nat) (c : Nat) : Nat := if C (znd c 1) = 0 then 0 else if C (znd c 2) = 0 then 1 else if C (znd c 3) = 0 then 2 else 3
theorem s_T_depthReachedBy {Γ : zG} {l : Launch} (hl : l.stackTraces = false) {d : Nat} (hd : 1 ≤ d) {h : zH} {n : Nat} {t c : Nat} {E C : Nat → Nat} (hT : TH h t E C) (hc : c < 1000) (hC : ∀ q, C q < 2 ^ 31) : zC Γ l d mT_depthReachedBy [.ref t, .int (nI c)] h n 0 0 (zR (some (.int (nI (zreach C c)))) h n) := by
  have e1 : 10 * 0 + zdg c 0 + 1 = znd c 1 := znd_s (k := 0) hc (by decide)
  have e2 : 10 * znd c 1 + zdg c (0 + 1) + 1 = znd c 2 := znd_s (k := 1) hc (by decide)
  have e3 : 10 * znd c 2 + zdg c (0 + 1 + 1) + 1 = znd c 3 := znd_s (k := 2) hc (by decide)
  have l1 := znd_lt hc (k := 1) (by decide)
  have l2 := znd_lt hc (k := 2) (by decide)
  have l3 := znd_lt hc (k := 3) (by decide)
  have c1 := hC (znd c 1)
  have c2 := hC (znd c 2)
  have c3 := hC (znd c 3)
  unfold zreach
  refine zC_of (ls := [some (.ref t), some (.int (nI c)), none, none]) hl (by decide +kernel) rfl (Nat.le_of_ble_eq_true rfl) rfl ?_
  refine zs_iconst (pc := 0) dT_depthReachedBy_0 zi_0 ?_
  refine zs_istore_n (pc := 1) (ls2 := [_, _, _, _]) dT_depthReachedBy_1 (Nat.le_of_ble_eq_true rfl) rfl ?_
  refine zs_iconst (pc := 2) dT_depthReachedBy_2 zi_0 ?_
  refine zs_istore_n (pc := 3) (ls2 := [_, _, _, _]) dT_depthReachedBy_3 (Nat.le_of_ble_eq_true rfl) rfl ?_
  refine zs_iload_n (pc := 4) dT_depthReachedBy_4 rfl ?_
  refine zs_iconst (pc := 5) dT_depthReachedBy_5 zi_3 ?_
  refine zn_icmp_ge (pc := 6) 35 dT_depthReachedBy_6 rfl (by omega) (by omega) (fun h9 => absurd h9 (by omega)) (fun _ => ?_)
  refine zs_iload_n (pc := 9) dT_depthReachedBy_9 rfl ?_
  refine zs_iload_n (pc := 10) dT_depthReachedBy_10 rfl ?_
  refine zs_iload_n (pc := 11) dT_depthReachedBy_11 rfl ?_
  refine zcS1_2 (pc := 12) (d2 := d - 1) (s_T_digitAt hl (by omega) (by omega)) dT_depthReachedBy_12 kT_18 mdT_digitAt msT_digitAt rfl (Nat.le_of_ble_eq_true rfl) (by omega) (by omega) (by omega) ?_
  refine zcS1_2 (pc := 15) (d2 := d - 1) (s_T_child hl) dT_depthReachedBy_15 kT_22 mdT_child msT_child rfl (Nat.le_of_ble_eq_true rfl) (by omega) (by omega) (by omega) ?_
  refine zs_istore_n (pc := 18) (ls2 := [_, _, _, _]) dT_depthReachedBy_18 (Nat.le_of_ble_eq_true rfl) rfl ?_
  refine zs_aload_n (pc := 19) dT_depthReachedBy_19 rfl ?_
  refine zs_iload_n (pc := 20) dT_depthReachedBy_20 rfl ?_
  rw [e1]
  refine zcV1_1 (pc := 21) (d2 := d - 1) (s_T_codesAt hl hT l1) dT_depthReachedBy_21 kT_25 mdT_codesAt miT_codesAt mvT_codesAt rfl (by exact hT.1) rfl (Nat.le_of_ble_eq_true rfl) (by omega) (by omega) (by omega) ?_
  refine zn_if_ne (pc := 24) 29 dT_depthReachedBy_24 rfl (by omega) (fun b1 => ?_) (fun b1 => ?_)
  · rw [if_neg b1]
    refine zn_iinc (pc := 29) (ls2 := [_, _, _, _]) dT_depthReachedBy_29 rfl (Nat.le_of_ble_eq_true rfl) rfl ?_
    refine zs_goto (pc := 32) 4 dT_depthReachedBy_32 rfl ?_
    refine zs_iload_n (pc := 4) dT_depthReachedBy_4 rfl ?_
    refine zs_iconst (pc := 5) dT_depthReachedBy_5 zi_3 ?_
    refine zn_icmp_ge (pc := 6) 35 dT_depthReachedBy_6 rfl (by omega) (by omega) (fun h9 => absurd h9 (by omega)) (fun _ => ?_)
    refine zs_iload_n (pc := 9) dT_depthReachedBy_9 rfl ?_
    refine zs_iload_n (pc := 10) dT_depthReachedBy_10 rfl ?_
    refine zs_iload_n (pc := 11) dT_depthReachedBy_11 rfl ?_
    refine zcS1_2 (pc := 12) (d2 := d - 1) (s_T_digitAt hl (by omega) (by omega)) dT_depthReachedBy_12 kT_18 mdT_digitAt msT_digitAt rfl (Nat.le_of_ble_eq_true rfl) (by omega) (by omega) (by omega) ?_
    refine zcS1_2 (pc := 15) (d2 := d - 1) (s_T_child hl) dT_depthReachedBy_15 kT_22 mdT_child msT_child rfl (Nat.le_of_ble_eq_true rfl) (by omega) (by omega) (by omega) ?_
    refine zs_istore_n (pc := 18) (ls2 := [_, _, _, _]) dT_depthReachedBy_18 (Nat.le_of_ble_eq_true rfl) rfl ?_
    refine zs_aload_n (pc := 19) dT_depthReachedBy_19 rfl ?_
    refine zs_iload_n (pc := 20) dT_depthReachedBy_20 rfl ?_
    rw [e2]
    refine zcV1_1 (pc := 21) (d2 := d - 1) (s_T_codesAt hl hT l2) dT_depthReachedBy_21 kT_25 mdT_codesAt miT_codesAt mvT_codesAt rfl (by exact hT.1) rfl (Nat.le_of_ble_eq_true rfl) (by omega) (by omega) (by omega) ?_
    refine zn_if_ne (pc := 24) 29 dT_depthReachedBy_24 rfl (by omega) (fun b2 => ?_) (fun b2 => ?_)
    · rw [if_neg b2]
      refine zn_iinc (pc := 29) (ls2 := [_, _, _, _]) dT_depthReachedBy_29 rfl (Nat.le_of_ble_eq_true rfl) rfl ?_
      refine zs_goto (pc := 32) 4 dT_depthReachedBy_32 rfl ?_
      refine zs_iload_n (pc := 4) dT_depthReachedBy_4 rfl ?_
      refine zs_iconst (pc := 5) dT_depthReachedBy_5 zi_3 ?_
      refine zn_icmp_ge (pc := 6) 35 dT_depthReachedBy_6 rfl (by omega) (by omega) (fun h9 => absurd h9 (by omega)) (fun _ => ?_)
      refine zs_iload_n (pc := 9) dT_depthReachedBy_9 rfl ?_
      refine zs_iload_n (pc := 10) dT_depthReachedBy_10 rfl ?_
      refine zs_iload_n (pc := 11) dT_depthReachedBy_11 rfl ?_
      refine zcS1_2 (pc := 12) (d2 := d - 1) (s_T_digitAt hl (by omega) (by omega)) dT_depthReachedBy_12 kT_18 mdT_digitAt msT_digitAt rfl (Nat.le_of_ble_eq_true rfl) (by omega) (by omega) (by omega) ?_
      refine zcS1_2 (pc := 15) (d2 := d - 1) (s_T_child hl) dT_depthReachedBy_15 kT_22 mdT_child msT_child rfl (Nat.le_of_ble_eq_true rfl) (by omega) (by omega) (by omega) ?_
      refine zs_istore_n (pc := 18) (ls2 := [_, _, _, _]) dT_depthReachedBy_18 (Nat.le_of_ble_eq_true rfl) rfl ?_
      refine zs_aload_n (pc := 19) dT_depthReachedBy_19 rfl ?_
      refine zs_iload_n (pc := 20) dT_depthReachedBy_20 rfl ?_
      rw [e3]
      refine zcV1_1 (pc := 21) (d2 := d - 1) (s_T_codesAt hl hT l3) dT_depthReachedBy_21 kT_25 mdT_codesAt miT_codesAt mvT_codesAt rfl (by exact hT.1) rfl (Nat.le_of_ble_eq_true rfl) (by omega) (by omega) (by omega) ?_
      refine zn_if_ne (pc := 24) 29 dT_depthReachedBy_24 rfl (by omega) (fun b3 => ?_) (fun b3 => ?_)
      · rw [if_neg b3]
        refine zn_iinc (pc := 29) (ls2 := [_, _, _, _]) dT_depthReachedBy_29 rfl (Nat.le_of_ble_eq_true rfl) rfl ?_
        refine zs_goto (pc := 32) 4 dT_depthReachedBy_32 rfl ?_
        refine zs_iload_n (pc := 4) dT_depthReachedBy_4 rfl ?_
        refine zs_iconst (pc := 5) dT_depthReachedBy_5 zi_3 ?_
        refine zn_icmp_ge (pc := 6) 35 dT_depthReachedBy_6 rfl (by omega) (by omega) (fun _ => ?_) (fun h9 => absurd h9 (by omega))
        refine zs_iload_n (pc := 35) dT_depthReachedBy_35 rfl ?_
        exact zs_iret (pc := 36) dT_depthReachedBy_36 rfl rfl (by omega) (by omega) (⟨rfl, rfl, rfl⟩)
      · rw [if_pos b3]
        refine zs_iload_n (pc := 27) dT_depthReachedBy_27 rfl ?_
        exact zs_iret (pc := 28) dT_depthReachedBy_28 rfl rfl (by omega) (by omega) (⟨rfl, rfl, rfl⟩)
    · rw [if_pos b2]
      refine zs_iload_n (pc := 27) dT_depthReachedBy_27 rfl ?_
      exact zs_iret (pc := 28) dT_depthReachedBy_28 rfl rfl (by omega) (by omega) (⟨rfl, rfl, rfl⟩)
  · rw [if_pos b1]
    refine zs_iload_n (pc := 27) dT_depthReachedBy_27 rfl ?_
    exact zs_iret (pc := 28) dT_depthReachedBy_28 rfl rfl (by omega) (by omega) (⟨rfl, rfl, rfl⟩)
/-- the first of the commonest: how often, and its number plus one -/
def zcmF (f : Nat → Nat) : Nat → Nat × Nat
  | 0 => (0, 0)
  | n + 1 => if (zcmF f n).1 < f n then (f n, n + 1) else zcmF f n
theorem zcmF_le {f : Nat → Nat} {B : Nat} : ∀ n, (∀ i, i < n → f i ≤ B) → (zcmF f n).1 ≤ B ∧ (zcmF f n).2 ≤ n := by
  intro n
  induction n with
  | zero => intro _; exact ⟨Nat.zero_le _, Nat.le_refl _⟩
  | succ n ih =>
    intro h
    obtain ⟨h1, h2⟩ := ih (fun i hi => h i (by omega))
    unfold zcmF
    split
    · exact ⟨h n (by omega), Nat.le_refl _⟩
    · exact ⟨h1, by omega⟩
theorem zcmF_eq {f f2 : Nat → Nat} : ∀ n, (∀ i, i < n → f i = f2 i) → zcmF f n = zcmF f2 n := by
  intro n
  induction n with
  | zero => intro _; rfl
  | succ n ih => intro h; unfold zcmF; rw [ih (fun i hi => h i (by omega)), h n (by omega)]
def zpre (k : Nat) : Int32 := if k = 0 then -1 else nI (k - 1)
theorem lp_T_commonestLeaf {Γ : zG} {l : Launch} (hl : l.stackTraces = false) {d : Nat} {h : zH} {n : Nat} {t : Nat} {E C : Nat → Nat} (hT : TH h t E C) (hE : ∀ q, E q < 2 ^ 20) : ∀ i j, i + j = 1000 → Z Γ l mT_commonestLeaf d 0 0 (zFin Γ (zR (some (.int (zpre (zcmF (fun q => E (111 + q)) 1000).2))) h n) 0 0) 6 [some (.ref t), some (.int (zpre (zcmF (fun q => E (111 + q)) j).2)), some (.int (nI (zcmF (fun q => E (111 + q)) j).1)), some (.int (nI j))] [] h n 0 0 := by
  intro i
  induction i with
  | zero =>
    intro j hj
    obtain rfl : j = 1000 := by omega
    refine zs_iload_n (pc := 6) dT_commonestLeaf_6 rfl ?_
    refine zs_sipush (pc := 7) dT_commonestLeaf_7 (zi_s 1000 (by decide)) ?_
    refine zn_icmp_ge (pc := 10) 44 dT_commonestLeaf_10 rfl (by omega) (by omega) (fun _ => ?_) (fun h9 => absurd h9 (by omega))
    refine zs_iload_n (pc := 44) dT_commonestLeaf_44 rfl ?_
    exact zs_iret (pc := 45) dT_commonestLeaf_45 rfl rfl (by omega) (by omega) (⟨rfl, rfl, rfl⟩)
  | succ i ih =>
    intro j hj
    have hz := ih (j + 1) (by omega)
    have h1 := (zcmF_le (f := fun q => E (111 + q)) (B := 2 ^ 20) j (fun i _ => Nat.le_of_lt (hE _))).1
    have h2 := hE (111 + j)
    by_cases e : (zcmF (fun q => E (111 + q)) j).1 < E (111 + j)
    · have e2 : zcmF (fun q => E (111 + q)) (j + 1) = (E (111 + j), j + 1) := if_pos e
      rw [e2] at hz
      refine zs_iload_n (pc := 6) dT_commonestLeaf_6 rfl ?_
      refine zs_sipush (pc := 7) dT_commonestLeaf_7 (zi_s 1000 (by decide)) ?_
      refine zn_icmp_ge (pc := 10) 44 dT_commonestLeaf_10 rfl (by omega) (by omega) (fun h9 => absurd h9 (by omega)) (fun _ => ?_)
      refine zs_aload_n (pc := 13) dT_commonestLeaf_13 rfl ?_
      refine zs_get (pc := 14) dT_commonestLeaf_14 fT_11 (by first | exact hT.1 | exact hT.2.1) (by rfl) ?_
      refine zs_bipush (pc := 17) dT_commonestLeaf_17 (zi_b 111 (by decide)) ?_
      refine zs_iload_n (pc := 19) dT_commonestLeaf_19 rfl ?_
      refine zn_iadd (pc := 20) dT_commonestLeaf_20 ?_
      refine zn_iald (pc := 21) dT_commonestLeaf_21 (by first | exact hT.1 | exact hT.2.1) (by omega) (by first | decide | assumption) ?_
      refine zs_iload_n (pc := 22) dT_commonestLeaf_22 rfl ?_
      refine zn_icmp_le (pc := 23) 38 dT_commonestLeaf_23 rfl (by omega) (by omega) (fun h9 => absurd h9 (by omega)) (fun _ => ?_)
      refine zs_aload_n (pc := 26) dT_commonestLeaf_26 rfl ?_
      refine zs_get (pc := 27) dT_commonestLeaf_27 fT_11 (by first | exact hT.1 | exact hT.2.1) (by rfl) ?_
      refine zs_bipush (pc := 30) dT_commonestLeaf_30 (zi_b 111 (by decide)) ?_
      refine zs_iload_n (pc := 32) dT_commonestLeaf_32 rfl ?_
      refine zn_iadd (pc := 33) dT_commonestLeaf_33 ?_
      refine zn_iald (pc := 34) dT_commonestLeaf_34 (by first | exact hT.1 | exact hT.2.1) (by omega) (by first | decide | assumption) ?_
      refine zs_istore_n (pc := 35) (ls2 := [_, _, _, _]) dT_commonestLeaf_35 (Nat.le_of_ble_eq_true rfl) rfl ?_
      refine zs_iload_n (pc := 36) dT_commonestLeaf_36 rfl ?_
      refine zs_istore_n (pc := 37) (ls2 := [_, _, _, _]) dT_commonestLeaf_37 (Nat.le_of_ble_eq_true rfl) rfl ?_
      refine zn_iinc (pc := 38) (ls2 := [_, _, _, _]) dT_commonestLeaf_38 rfl (Nat.le_of_ble_eq_true rfl) rfl ?_
      refine zs_goto (pc := 41) 6 dT_commonestLeaf_41 rfl ?_
      exact hz
    · have e2 : zcmF (fun q => E (111 + q)) (j + 1) = zcmF (fun q => E (111 + q)) j := if_neg e
      rw [e2] at hz
      refine zs_iload_n (pc := 6) dT_commonestLeaf_6 rfl ?_
      refine zs_sipush (pc := 7) dT_commonestLeaf_7 (zi_s 1000 (by decide)) ?_
      refine zn_icmp_ge (pc := 10) 44 dT_commonestLeaf_10 rfl (by omega) (by omega) (fun h9 => absurd h9 (by omega)) (fun _ => ?_)
      refine zs_aload_n (pc := 13) dT_commonestLeaf_13 rfl ?_
      refine zs_get (pc := 14) dT_commonestLeaf_14 fT_11 (by first | exact hT.1 | exact hT.2.1) (by rfl) ?_
      refine zs_bipush (pc := 17) dT_commonestLeaf_17 (zi_b 111 (by decide)) ?_
      refine zs_iload_n (pc := 19) dT_commonestLeaf_19 rfl ?_
      refine zn_iadd (pc := 20) dT_commonestLeaf_20 ?_
      refine zn_iald (pc := 21) dT_commonestLeaf_21 (by first | exact hT.1 | exact hT.2.1) (by omega) (by first | decide | assumption) ?_
      refine zs_iload_n (pc := 22) dT_commonestLeaf_22 rfl ?_
      refine zn_icmp_le (pc := 23) 38 dT_commonestLeaf_23 rfl (by omega) (by omega) (fun _ => ?_) (fun h9 => absurd h9 (by omega))
      refine zn_iinc (pc := 38) (ls2 := [_, _, _, _]) dT_commonestLeaf_38 rfl (Nat.le_of_ble_eq_true rfl) rfl ?_
      refine zs_goto (pc := 41) 6 dT_commonestLeaf_41 rfl ?_
      exact hz
theorem s_T_commonestLeaf {Γ : zG} {l : Launch} (hl : l.stackTraces = false) {d : Nat} {h : zH} {n : Nat} {t : Nat} {E C : Nat → Nat} (hT : TH h t E C) (hE : ∀ q, E q < 2 ^ 20) : zC Γ l d mT_commonestLeaf [.ref t] h n 0 0 (zR (some (.int (zpre (zcmF (fun q => E (111 + q)) 1000).2))) h n) := by
  refine zC_of (ls := [some (.ref t), none, none, none]) hl (by decide +kernel) rfl (Nat.le_of_ble_eq_true rfl) rfl ?_
  refine zs_iconst (pc := 0) dT_commonestLeaf_0 zi_m1 ?_
  refine zs_istore_n (pc := 1) (ls2 := [_, _, _, _]) dT_commonestLeaf_1 (Nat.le_of_ble_eq_true rfl) rfl ?_
  refine zs_iconst (pc := 2) dT_commonestLeaf_2 zi_0 ?_
  refine zs_istore_n (pc := 3) (ls2 := [_, _, _, _]) dT_commonestLeaf_3 (Nat.le_of_ble_eq_true rfl) rfl ?_
  refine zs_iconst (pc := 4) dT_commonestLeaf_4 zi_0 ?_
  refine zs_istore_n (pc := 5) (ls2 := [_, _, _, _]) dT_commonestLeaf_5 (Nat.le_of_ble_eq_true rfl) rfl ?_
  exact lp_T_commonestLeaf hl hT hE 1000 0 rfl

