/-! entries: what writes them -/
def zEh (h : zH) (e c : Nat) (q : Nat → Nat) : zH := zu (zu h e (zEo q c)) c (zEc q)
theorem zEh_e {h : zH} {e c : Nat} {q : Nat → Nat} (hne : e ≠ c) : zEh h e c q e = some (zEo q c) := by unfold zEh; rw [zu_n hne]; exact zu_s
theorem zEh_c {h : zH} {e c : Nat} {q : Nat → Nat} : zEh h e c q c = some (zEc q) := zu_s
theorem zEh_n {h : zH} {e c a : Nat} {q : Nat → Nat} (h1 : a ≠ e) (h2 : a ≠ c) : zEh h e c q a = h a := by unfold zEh; rw [zu_n h2, zu_n h1]
theorem zEh_zEh {h : zH} {e c : Nat} {q q2 : Nat → Nat} (hne : e ≠ c) : zEh (zEh h e c q) e c q2 = zEh h e c q2 := by
  unfold zEh
  rw [zu_cm (a := c) (b := e) (Ne.symm hne), zu_zu, zu_zu]
theorem zEh_id {h : zH} {e c : Nat} {q : Nat → Nat} (he : h e = some (zEo q c)) (hc : h c = some (zEc q)) : zEh h e c q = h := by
  unfold zEh
  rw [zu_id he, zu_id hc]
theorem zEh_of {h : zH} {e c : Nat} {q q2 : Nat → Nat} (hne : e ≠ c) (h1 : ∀ j, j < 6 → q j = q2 j) (h2 : ∀ i, q (6 + i) = q2 (6 + i)) : zEh h e c q = zEh h e c q2 := by
  have e1 : zEo q c = zEo q2 c := by unfold zEo; rw [h1 0 (by decide), h1 1 (by decide), h1 2 (by decide), h1 3 (by decide), h1 4 (by decide), h1 5 (by decide)]
  have e2 : zEc q = zEc q2 := by unfold zEc zAr; simp only [h2]
  unfold zEh
  rw [e1, e2]
def zbeg (q : Nat → Nat) (i w s : Nat) : Nat → Nat := fun j => if j = 0 then i else if j = 1 then w else if j = 4 then s else if j < 6 then 0 else q j
theorem s_E_begin {Γ : zG} {l : Launch} (hl : l.stackTraces = false) {d : Nat} {h : zH} {n : Nat} {e c i w s : Nat} {q : Nat → Nat} (he : h e = some (zEo q c)) (hc : h c = some (zEc q)) (hne : e ≠ c) : zC Γ l d mE_begin [.ref e, .int (nI i), .int (nI w), .int (nI s)] h n 0 0 (zR none (zEh h e c (zbeg q i w s)) n) := by
  refine zC_of (ls := [some (.ref e), some (.int (nI i)), some (.int (nI w)), some (.int (nI s))]) hl (by decide +kernel) rfl (Nat.le_of_ble_eq_true rfl) rfl ?_
  refine zs_aload_n (pc := 0) dE_begin_0 rfl ?_
  refine zs_iload_n (pc := 1) dE_begin_1 rfl ?_
  refine zs_put (pc := 2) (fs2 := [_, _, _, _, _, _, _]) dE_begin_2 fE_15 (by first | exact he) (by rfl) (by rfl) (by exact Nat.le_of_ble_eq_true rfl) (by rfl) ?_
  refine zs_aload_n (pc := 5) dE_begin_5 rfl ?_
  refine zs_iload_n (pc := 6) dE_begin_6 rfl ?_
  refine zs_putU (pc := 7) (fs2 := [_, _, _, _, _, _, _]) dE_begin_7 fE_19 (by rfl) (by rfl) (by exact Nat.le_of_ble_eq_true rfl) (by rfl) ?_
  refine zs_aload_n (pc := 10) dE_begin_10 rfl ?_
  refine zs_iconst (pc := 11) dE_begin_11 zi_0 ?_
  refine zs_putU (pc := 12) (fs2 := [_, _, _, _, _, _, _]) dE_begin_12 fE_22 (by rfl) (by rfl) (by exact Nat.le_of_ble_eq_true rfl) (by rfl) ?_
  refine zs_aload_n (pc := 15) dE_begin_15 rfl ?_
  refine zs_iconst (pc := 16) dE_begin_16 zi_0 ?_
  refine zs_putU (pc := 17) (fs2 := [_, _, _, _, _, _, _]) dE_begin_17 fE_25 (by rfl) (by rfl) (by exact Nat.le_of_ble_eq_true rfl) (by rfl) ?_
  refine zs_aload_n (pc := 20) dE_begin_20 rfl ?_
  refine zs_iload_n (pc := 21) dE_begin_21 rfl ?_
  refine zs_putU (pc := 22) (fs2 := [_, _, _, _, _, _, _]) dE_begin_22 fE_28 (by rfl) (by rfl) (by exact Nat.le_of_ble_eq_true rfl) (by rfl) ?_
  refine zs_aload_n (pc := 25) dE_begin_25 rfl ?_
  refine zs_iconst (pc := 26) dE_begin_26 zi_0 ?_
  refine zs_putU (pc := 27) (fs2 := [_, _, _, _, _, _, _]) dE_begin_27 fE_31 (by rfl) (by rfl) (by exact Nat.le_of_ble_eq_true rfl) (by rfl) ?_
  have e2 : zEc (zbeg q i w s) = zEc q := by
    refine zAr_ext fun j => ?_
    unfold zbeg
    (repeat' split) <;> first | rfl | (exfalso; omega) | (congr 1; omega) | omega
  have e1 : zEh h e c (zbeg q i w s) = zu h e (zEo (zbeg q i w s) c) := by
    unfold zEh
    rw [e2]
    exact zu_id (by rw [zu_n (Ne.symm hne)]; exact hc)
  rw [e1]
  exact zs_vret (pc := 30) dE_begin_30 rfl (by omega) (by omega) (⟨rfl, rfl, rfl⟩)
theorem s_E_init {Γ : zG} {l : Launch} (hl : l.stackTraces = false) {d : Nat} {h : zH} {n : Nat} {e : Nat} (he : h e = some (.inr (1, [.int (nI 0), .int (nI 0), .int (nI 0), .int (nI 0), .int (nI 0), .int (nI 0), .null]))) (hne : e ≠ n) : zC Γ l d mE_init [.ref e] h n 1 6 (zR none (zEh h e n (fun _ => 0)) (n + 1)) := by
  refine zC_of (ls := [some (.ref e)]) hl (by decide +kernel) rfl (Nat.le_of_ble_eq_true rfl) rfl ?_
  refine zs_aload_n (pc := 0) dE_init_0 rfl ?_
  refine zs_objInit (pc := 1) dE_init_1 kE_3 (Nat.le_of_ble_eq_true rfl) ?_
  refine zs_aload_n (pc := 4) dE_init_4 rfl ?_
  refine zs_bipush (pc := 5) dE_init_5 (zi_b 6 (by decide)) ?_
  refine zs_newa (pc := 7) (kd := 0) (N := 6) (a0 := (6, .inl (fun i => nI ((fun _ => 0) i)))) dE_init_7 (by decide) rfl (by decide) (zt1 (i := 84) rfl) (fun cA => rfl) (by decide) (by decide) (by decide) (by omega) (by omega) ?_
  refine zs_putF (pc := 9) (fs2 := [_, _, _, _, _, _, _]) dE_init_9 rfl fE_9 ⟨_, _, rfl⟩ (by first | exact he | (rw [zu_n hne]; exact he)) (by rfl) (by rfl) (by exact Nat.le_of_ble_eq_true rfl) (by rfl) ?_
  have e1 : zEh h e n (fun _ => 0) = zu (zu h n (zEc (fun _ => 0))) e (zEo (fun _ => 0) n) := by
    unfold zEh
    exact zu_cm hne
  rw [e1]
  exact zs_vret (pc := 12) dE_init_12 rfl (by omega) (by omega) (⟨rfl, rfl, rfl⟩)
def zcp (q q2 : Nat → Nat) : Nat → Nat := fun j => if j < 12 then q2 j else q j
theorem s_E_copyFrom {Γ : zG} {l : Launch} (hl : l.stackTraces = false) {d : Nat} {h : zH} {n : Nat} {e c e2 c2 : Nat} {q q2 : Nat → Nat} (he : h e = some (zEo q c)) (hc : h c = some (zEc q)) (he2 : h e2 = some (zEo q2 c2)) (hc2 : h c2 = some (zEc q2)) (hne : e ≠ c) (hn1 : e2 ≠ e) (hn2 : c2 ≠ e) : zC Γ l d mE_copyFrom [.ref e, .ref e2] h n 0 0 (zR none (zEh h e c (zcp q q2)) n) := by
  refine zC_of (ls := [some (.ref e), some (.ref e2)]) hl (by decide +kernel) rfl (Nat.le_of_ble_eq_true rfl) rfl ?_
  refine zs_aload_n (pc := 0) dE_copyFrom_0 rfl ?_
  refine zs_aload_n (pc := 1) dE_copyFrom_1 rfl ?_
  refine zs_get (pc := 2) dE_copyFrom_2 fE_15 (by first | exact he | exact he2 | (rw [zu_n hn1]; exact he2) | exact zu_s) (by rfl) ?_
  refine zs_put (pc := 5) (fs2 := [_, _, _, _, _, _, _]) dE_copyFrom_5 fE_15 (by first | exact he | exact he2 | (rw [zu_n hn1]; exact he2) | exact zu_s) (by rfl) (by rfl) (by exact Nat.le_of_ble_eq_true rfl) (by rfl) ?_
  refine zs_aload_n (pc := 8) dE_copyFrom_8 rfl ?_
  refine zs_aload_n (pc := 9) dE_copyFrom_9 rfl ?_
  refine zs_get (pc := 10) dE_copyFrom_10 fE_19 (by first | exact he | exact he2 | (rw [zu_n hn1]; exact he2) | exact zu_s) (by rfl) ?_
  refine zs_putU (pc := 13) (fs2 := [_, _, _, _, _, _, _]) dE_copyFrom_13 fE_19 (by rfl) (by rfl) (by exact Nat.le_of_ble_eq_true rfl) (by rfl) ?_
  refine zs_aload_n (pc := 16) dE_copyFrom_16 rfl ?_
  refine zs_aload_n (pc := 17) dE_copyFrom_17 rfl ?_
  refine zs_get (pc := 18) dE_copyFrom_18 fE_22 (by first | exact he | exact he2 | (rw [zu_n hn1]; exact he2) | exact zu_s) (by rfl) ?_
  refine zs_putU (pc := 21) (fs2 := [_, _, _, _, _, _, _]) dE_copyFrom_21 fE_22 (by rfl) (by rfl) (by exact Nat.le_of_ble_eq_true rfl) (by rfl) ?_
  refine zs_aload_n (pc := 24) dE_copyFrom_24 rfl ?_
  refine zs_aload_n (pc := 25) dE_copyFrom_25 rfl ?_
  refine zs_get (pc := 26) dE_copyFrom_26 fE_25 (by first | exact he | exact he2 | (rw [zu_n hn1]; exact he2) | exact zu_s) (by rfl) ?_
  refine zs_putU (pc := 29) (fs2 := [_, _, _, _, _, _, _]) dE_copyFrom_29 fE_25 (by rfl) (by rfl) (by exact Nat.le_of_ble_eq_true rfl) (by rfl) ?_
  refine zs_aload_n (pc := 32) dE_copyFrom_32 rfl ?_
  refine zs_aload_n (pc := 33) dE_copyFrom_33 rfl ?_
  refine zs_get (pc := 34) dE_copyFrom_34 fE_28 (by first | exact he | exact he2 | (rw [zu_n hn1]; exact he2) | exact zu_s) (by rfl) ?_
  refine zs_putU (pc := 37) (fs2 := [_, _, _, _, _, _, _]) dE_copyFrom_37 fE_28 (by rfl) (by rfl) (by exact Nat.le_of_ble_eq_true rfl) (by rfl) ?_
  refine zs_aload_n (pc := 40) dE_copyFrom_40 rfl ?_
  refine zs_aload_n (pc := 41) dE_copyFrom_41 rfl ?_
  refine zs_get (pc := 42) dE_copyFrom_42 fE_31 (by first | exact he | exact he2 | (rw [zu_n hn1]; exact he2) | exact zu_s) (by rfl) ?_
  refine zs_putU (pc := 45) (fs2 := [_, _, _, _, _, _, _]) dE_copyFrom_45 fE_31 (by rfl) (by rfl) (by exact Nat.le_of_ble_eq_true rfl) (by rfl) ?_
  refine zs_aload_n (pc := 48) dE_copyFrom_48 rfl ?_
  refine zs_get (pc := 49) dE_copyFrom_49 fE_9 (by first | exact he | exact he2 | (rw [zu_n hn1]; exact he2) | exact zu_s) (by rfl) ?_
  refine zs_iconst (pc := 52) dE_copyFrom_52 zi_0 ?_
  refine zs_aload_n (pc := 53) dE_copyFrom_53 rfl ?_
  refine zs_get (pc := 54) dE_copyFrom_54 fE_9 (by first | exact he | exact he2 | (rw [zu_n hn1]; exact he2) | exact zu_s) (by rfl) ?_
  refine zs_iconst (pc := 57) dE_copyFrom_57 zi_0 ?_
  refine zs_bipush (pc := 58) dE_copyFrom_58 (zi_b 6 (by decide)) ?_
  refine zs_copyi (pc := 60) dE_copyFrom_60 kE_34 (by rw [zu_n hn2]; exact hc2) (by rw [zu_n (Ne.symm hne)]; exact hc) (by decide) (by decide) (by decide) (by decide) (by decide) (Nat.le_of_ble_eq_true rfl) ?_
  have e2 : (zEc (zcp q q2) : zE) = .inl (0, 6, .inl (va_cpy (fun i => nI (q2 (6 + i))) (fun i => nI (q (6 + i))) (nI 0).toNatClampNeg (nI 0).toNatClampNeg (nI 6).toNatClampNeg)) := by
    unfold zEc zAr
    congr 4
    funext j
    rw [nI_clamp (by decide), nI_clamp (by decide)]
    show nI (zcp q q2 (6 + j)) = _
    unfold va_cpy zcp
    by_cases hj : j < 6
    · rw [if_pos (by omega), if_pos (by omega)]
      show _ = nI (q2 (6 + (0 + (j - 0))))
      congr 2
      omega
    · rw [if_neg (by omega), if_neg (by omega)]
  unfold zEh
  rw [e2]
  exact zs_vret (pc := 63) dE_copyFrom_63 rfl (by omega) (by omega) (⟨rfl, rfl, rfl⟩)
/-! insertion -/
def zpos (q : Nat → Nat) (v : Nat) : Nat → Nat
  | 0 => 0
  | n + 1 => if v < q (6 + n) then zpos q v n else n + 1
theorem zpos_le (q : Nat → Nat) (v n : Nat) : zpos q v n ≤ n := by
  induction n with
  | zero => exact Nat.le_refl _
  | succ n ih => unfold zpos; split <;> omega
theorem zpos_is {q : Nat → Nat} {v p : Nat} : ∀ n, p ≤ n → (∀ i, p ≤ i → i < n → v < q (6 + i)) → (p = 0 ∨ ¬ v < q (6 + (p - 1))) → zpos q v n = p := by
  intro n
  induction n with
  | zero => intro h1 _ _; unfold zpos; omega
  | succ n ih =>
    intro h1 h2 h3
    unfold zpos
    by_cases e : p = n + 1
    · rw [if_neg]
      · exact e.symm
      · rcases h3 with h3 | h3
        · omega
        · rw [e] at h3; exact h3
    · rw [if_pos (h2 n (by omega) (by omega))]
      exact ih (by omega) (fun i g1 g2 => h2 i g1 (by omega)) h3
def zins (q : Nat → Nat) (v : Nat) : Nat → Nat := fun j => if j = 5 then q 5 + 1 else if j < 6 + zpos q v (q 5) then q j else if j = 6 + zpos q v (q 5) then v else if j ≤ 6 + q 5 then q (j - 1) else q j
/-- the codes while they make room at place p -/
def zsh (q : Nat → Nat) (p : Nat) : Nat → Nat := fun i => if p < i ∧ i ≤ q 5 then q (6 + (i - 1)) else q (6 + i)
theorem lp_E_insert {Γ : zG} {l : Launch} (hl : l.stackTraces = false) {d : Nat} {h : zH} {n : Nat} {e c v : Nat} {q : Nat → Nat} (hb : zEb q) (h5 : q 5 < 6) (he : h e = some (zEo q c)) (hc : h c = some (zEc q)) (hne : e ≠ c) (hv : v < 1000) : ∀ p, p ≤ q 5 → (∀ i, p ≤ i → i < q 5 → v < q (6 + i)) → Z Γ l mE_insert d 0 0 (zFin Γ (zR none (zEh h e c (zins q v)) n) 0 0) 15 [some (.ref e), some (.int (nI v)), some (.int (nI p))] [] (zu h c (zAr 0 6 (zsh q p))) n 0 0 := by
  obtain ⟨b0, b1, b2, b3, b4, b5, b6⟩ := hb
  have fin : ∀ p, p ≤ q 5 → zpos q v (q 5) = p → Z Γ l mE_insert d 0 0 (zFin Γ (zR none (zEh h e c (zins q v)) n) 0 0) 51 [some (.ref e), some (.int (nI v)), some (.int (nI p))] [] (zu h c (zAr 0 6 (zsh q p))) n 0 0 := by
    intro p hp hpos
    refine zs_aload_n (pc := 51) dE_insert_51 rfl ?_
    refine zs_get (pc := 52) dE_insert_52 fE_9 (by first | exact he | exact zu_s | (rw [zu_n hne]; exact he) | exact hc) (by rfl) ?_
    refine zs_iload_n (pc := 55) dE_insert_55 rfl ?_
    refine zs_iload_n (pc := 56) dE_insert_56 rfl ?_
    refine zn_iastU (pc := 57) dE_insert_57 (by omega) (by decide) ?_
    refine zs_aload_n (pc := 58) dE_insert_58 rfl ?_
    refine zs_dup (pc := 59) dE_insert_59 rfl ?_
    refine zs_get (pc := 60) dE_insert_60 fE_31 (by first | exact he | exact zu_s | (rw [zu_n hne]; exact he) | exact hc) (by rfl) ?_
    refine zs_iconst (pc := 63) dE_insert_63 zi_1 ?_
    refine zn_iadd (pc := 64) dE_insert_64 ?_
    refine zs_put (pc := 65) (fs2 := [_, _, _, _, _, _, _]) dE_insert_65 fE_31 (by first | exact he | exact zu_s | (rw [zu_n hne]; exact he) | exact hc) (by rfl) (by rfl) (by exact Nat.le_of_ble_eq_true rfl) (by rfl) ?_
    have e2 : zEc (zins q v) = zAr 0 6 (zup (zsh q p) p v) := by
      refine zAr_ext fun j => ?_
      unfold zins zup zsh
      rw [hpos]
      (repeat' split) <;> first | rfl | (exfalso; omega) | (congr 1; omega) | omega
    have e1 : zEo (zins q v) c = (.inr (1, [.int (nI (q 0)), .int (nI (q 1)), .int (nI (q 2)), .int (nI (q 3)), .int (nI (q 4)), .int (nI (q 5 + 1)), .ref c]) : zE) := by
      unfold zEo
      have g : ∀ j, j < 5 → zins q v j = q j := fun j hj => by unfold zins; rw [if_neg (by omega), if_pos (by omega)]
      rw [g 0 (by decide), g 1 (by decide), g 2 (by decide), g 3 (by decide), g 4 (by decide)]
      rfl
    rw [show zEh h e c (zins q v) = zu (zu h c (zEc (zins q v))) e (zEo (zins q v) c) by unfold zEh; exact zu_cm hne]
    rw [e1, e2]
    exact zs_vret (pc := 68) dE_insert_68 rfl (by omega) (by omega) (⟨rfl, rfl, rfl⟩)
  intro p
  induction p with
  | zero =>
    intro hp hs
    refine zs_iload_n (pc := 15) dE_insert_15 rfl ?_
    refine zn_if_le (pc := 16) 51 dE_insert_16 rfl (by omega) (fun _ => ?_) (fun h9 => absurd h9 (by omega))
    exact fin 0 hp (zpos_is _ hp hs (Or.inl rfl))
  | succ p ih =>
    intro hp hs
    have eq1 : zsh q (p + 1) p = q (6 + p) := by unfold zsh; rw [if_neg (by omega)]
    have b7 := b6 p (by omega)
    refine zs_iload_n (pc := 15) dE_insert_15 rfl ?_
    refine zn_if_le (pc := 16) 51 dE_insert_16 rfl (by omega) (fun h9 => absurd h9 (by omega)) (fun _ => ?_)
    refine zs_aload_n (pc := 19) dE_insert_19 rfl ?_
    refine zs_get (pc := 20) dE_insert_20 fE_9 (by first | exact he | exact zu_s | (rw [zu_n hne]; exact he) | exact hc) (by rfl) ?_
    refine zs_iload_n (pc := 23) dE_insert_23 rfl ?_
    refine zs_iconst (pc := 24) dE_insert_24 zi_1 ?_
    refine zn_isub (pc := 25) dE_insert_25 (by omega) ?_
    refine zn_iald (pc := 26) dE_insert_26 (by first | exact he | exact zu_s | (rw [zu_n hne]; exact he) | exact hc) (by omega) (by decide) ?_
    refine zs_iload_n (pc := 27) dE_insert_27 rfl ?_
    rw [show p + 1 - 1 = p by omega, eq1]
    refine zn_icmp_le (pc := 28) 51 dE_insert_28 rfl (by omega) (by omega) (fun hc9 => ?_) (fun hc9 => ?_)
    · exact fin (p + 1) hp (zpos_is _ hp hs (Or.inr (by rw [show p + 1 - 1 = p by omega]; omega)))
    · refine zs_aload_n (pc := 31) dE_insert_31 rfl ?_
      refine zs_get (pc := 32) dE_insert_32 fE_9 (by first | exact he | exact zu_s | (rw [zu_n hne]; exact he) | exact hc) (by rfl) ?_
      refine zs_iload_n (pc := 35) dE_insert_35 rfl ?_
      refine zs_aload_n (pc := 36) dE_insert_36 rfl ?_
      refine zs_get (pc := 37) dE_insert_37 fE_9 (by first | exact he | exact zu_s | (rw [zu_n hne]; exact he) | exact hc) (by rfl) ?_
      refine zs_iload_n (pc := 40) dE_insert_40 rfl ?_
      refine zs_iconst (pc := 41) dE_insert_41 zi_1 ?_
      refine zn_isub (pc := 42) dE_insert_42 (by omega) ?_
      refine zn_iald (pc := 43) dE_insert_43 (by first | exact he | exact zu_s | (rw [zu_n hne]; exact he) | exact hc) (by omega) (by decide) ?_
      refine zn_iastU (pc := 44) dE_insert_44 (by omega) (by decide) ?_
      refine zn_idec (pc := 45) (ls2 := [_, _, _]) dE_insert_45 rfl (Nat.le_of_ble_eq_true rfl) rfl ?_
      refine zs_goto (pc := 48) 15 dE_insert_48 rfl ?_
      rw [show p + 1 - 1 = p by omega, eq1]
      have e3 : zup (zsh q (p + 1)) (p + 1) (q (6 + p)) = zsh q p := by
        funext j
        unfold zup zsh
        (repeat' split) <;> first | rfl | (exfalso; omega) | (congr 1; omega) | omega
      have hz := ih (by omega) (fun i g1 g2 => by
        by_cases h1 : i = p
        · subst h1; omega
        · exact hs i (by omega) g2)
      rw [e3]
      exact hz
theorem s_E_insert {Γ : zG} {l : Launch} (hl : l.stackTraces = false) {d : Nat} {h : zH} {n : Nat} {e c v : Nat} {q : Nat → Nat} (hb : zEb q) (h5 : q 5 < 6) (he : h e = some (zEo q c)) (hc : h c = some (zEc q)) (hne : e ≠ c) (hv : v < 1000) : zC Γ l d mE_insert [.ref e, .int (nI v)] h n 0 0 (zR none (zEh h e c (zins q v)) n) := by
  refine zC_of (ls := [some (.ref e), some (.int (nI v)), none]) hl (by decide +kernel) rfl (Nat.le_of_ble_eq_true rfl) rfl ?_
  refine zs_aload_n (pc := 0) dE_insert_0 rfl ?_
  refine zs_get (pc := 1) dE_insert_1 fE_31 (by first | exact he | exact zu_s | (rw [zu_n hne]; exact he) | exact hc) (by rfl) ?_
  refine zs_bipush (pc := 4) dE_insert_4 (zi_b 6 (by decide)) ?_
  refine zn_icmp_lt (pc := 6) 10 dE_insert_6 rfl (by omega) (by omega) (fun _ => ?_) (fun h9 => absurd h9 (by omega))
  refine zs_aload_n (pc := 10) dE_insert_10 rfl ?_
  refine zs_get (pc := 11) dE_insert_11 fE_31 (by first | exact he | exact zu_s | (rw [zu_n hne]; exact he) | exact hc) (by rfl) ?_
  refine zs_istore_n (pc := 14) (ls2 := [_, _, _]) dE_insert_14 (Nat.le_of_ble_eq_true rfl) rfl ?_
  have h0 := lp_E_insert (Γ := Γ) hl (d := d) (h := h) (n := n) hb h5 he hc hne hv (q 5) (Nat.le_refl _) (fun i g1 g2 => by omega)
  rw [zu_id (by rw [hc]; congr 1; refine zAr_ext fun j => ?_; unfold zsh; rw [if_neg (by omega)])] at h0
  exact h0
/-! deletion of the code at place t -/
def zdel (q : Nat → Nat) (t : Nat) : Nat → Nat := fun j => if j = 5 then q 5 - 1 else if j < 6 + t then q j else if j + 1 < 6 + q 5 then q (j + 1) else q j
def zdl (q : Nat → Nat) (t i : Nat) : Nat → Nat := fun j => if t ≤ j ∧ j + 1 < i then q (6 + (j + 1)) else q (6 + j)
theorem lp_E_delete {Γ : zG} {l : Launch} (hl : l.stackTraces = false) {d : Nat} {h : zH} {n : Nat} {e c v t : Nat} {q : Nat → Nat} (hb : zEb q) (he : h e = some (zEo q c)) (hc : h c = some (zEc q)) (hne : e ≠ c) (hv : v < 1000) (ht : t < q 5) (ht1 : q (6 + t) = v) (ht2 : ∀ i, i < q 5 → i ≠ t → q (6 + i) ≠ v) : ∀ i j, i + j = q 5 → Z Γ l mE_delete d 0 0 (zFin Γ (zR none (zEh h e c (zdel q t)) n) 0 0) 4 [some (.ref e), some (.int (nI v)), some (.int (nI (if j ≤ t then j else j - 1))), some (.int (nI j))] [] (zu h c (zAr 0 6 (zdl q t j))) n 0 0 := by
  obtain ⟨b0, b1, b2, b3, b4, b5, b6⟩ := hb
  intro i
  induction i with
  | zero =>
    intro j hj
    have e9 : j = q 5 := by omega
    subst e9
    rw [if_neg (by omega)]
    refine zs_iload_n (pc := 4) dE_delete_4 rfl ?_
    refine zs_aload_n (pc := 5) dE_delete_5 rfl ?_
    refine zs_get (pc := 6) dE_delete_6 fE_31 (by first | exact he | exact zu_s | (rw [zu_n hne]; exact he) | exact hc) (by rfl) ?_
    refine zn_icmp_ge (pc := 9) 43 dE_delete_9 rfl (by omega) (by omega) (fun _ => ?_) (fun h9 => absurd h9 (by omega))
    refine zs_aload_n (pc := 43) dE_delete_43 rfl ?_
    refine zs_iload_n (pc := 44) dE_delete_44 rfl ?_
    refine zs_put (pc := 45) (fs2 := [_, _, _, _, _, _, _]) dE_delete_45 fE_31 (by first | exact he | exact zu_s | (rw [zu_n hne]; exact he) | exact hc) (by rfl) (by rfl) (by exact Nat.le_of_ble_eq_true rfl) (by rfl) ?_
    have e2 : zEc (zdel q t) = zAr 0 6 (zdl q t (q 5)) := by
      refine zAr_ext fun j => ?_
      unfold zdel zdl
      (repeat' split) <;> first | rfl | (exfalso; omega) | (congr 1; omega) | omega
    have e1 : zEo (zdel q t) c = (.inr (1, [.int (nI (q 0)), .int (nI (q 1)), .int (nI (q 2)), .int (nI (q 3)), .int (nI (q 4)), .int (nI (q 5 - 1)), .ref c]) : zE) := by
      unfold zEo
      have g : ∀ j, j < 5 → zdel q t j = q j := fun j hj => by unfold zdel; rw [if_neg (by omega), if_pos (by omega)]
      rw [g 0 (by decide), g 1 (by decide), g 2 (by decide), g 3 (by decide), g 4 (by decide)]
      rfl
    rw [show zEh h e c (zdel q t) = zu (zu h c (zEc (zdel q t))) e (zEo (zdel q t) c) by unfold zEh; exact zu_cm hne]
    rw [e1, e2]
    exact zs_vret (pc := 48) dE_delete_48 rfl (by omega) (by omega) (⟨rfl, rfl, rfl⟩)
  | succ i ih =>
    intro j hj
    have hz := ih (j + 1) (by omega)
    have eq1 : zdl q t j j = q (6 + j) := by unfold zdl; rw [if_neg (by omega)]
    have b7 := b6 j (by omega)
    refine zs_iload_n (pc := 4) dE_delete_4 rfl ?_
    refine zs_aload_n (pc := 5) dE_delete_5 rfl ?_
    refine zs_get (pc := 6) dE_delete_6 fE_31 (by first | exact he | exact zu_s | (rw [zu_n hne]; exact he) | exact hc) (by rfl) ?_
    refine zn_icmp_ge (pc := 9) 43 dE_delete_9 rfl (by omega) (by omega) (fun h9 => absurd h9 (by omega)) (fun _ => ?_)
    refine zs_aload_n (pc := 12) dE_delete_12 rfl ?_
    refine zs_get (pc := 13) dE_delete_13 fE_9 (by first | exact he | exact zu_s | (rw [zu_n hne]; exact he) | exact hc) (by rfl) ?_
    refine zs_iload_n (pc := 16) dE_delete_16 rfl ?_
    refine zn_iald (pc := 17) dE_delete_17 (by first | exact he | exact zu_s | (rw [zu_n hne]; exact he) | exact hc) (by omega) (by decide) ?_
    refine zs_iload_n (pc := 18) dE_delete_18 rfl ?_
    rw [eq1]
    refine zn_icmp_eq (pc := 19) 37 dE_delete_19 rfl (by omega) (by omega) (fun h9 => ?_) (fun h9 => ?_)
    · have hjt : j = t := Classical.byContradiction fun q9 => ht2 j (by omega) q9 h9
      have e3 : zdl q t (j + 1) = zdl q t j := by
        funext k
        unfold zdl
        (repeat' split) <;> first | rfl | (exfalso; omega) | (congr 1; omega) | omega
      rw [if_neg (by omega), e3] at hz
      rw [if_pos (by omega)]
      refine zn_iinc (pc := 37) (ls2 := [_, _, _, _]) dE_delete_37 rfl (Nat.le_of_ble_eq_true rfl) rfl ?_
      refine zs_goto (pc := 40) 4 dE_delete_40 rfl ?_
      exact hz
    · have hjt : j ≠ t := fun q9 => h9 (by rw [q9]; exact ht1)
      by_cases hlt : j ≤ t
      · rw [if_pos (by omega)] at hz
        rw [if_pos hlt]
        refine zs_aload_n (pc := 22) dE_delete_22 rfl ?_
        refine zs_get (pc := 23) dE_delete_23 fE_9 (by first | exact he | exact zu_s | (rw [zu_n hne]; exact he) | exact hc) (by rfl) ?_
        refine zs_iload_n (pc := 26) dE_delete_26 rfl ?_
        refine zs_aload_n (pc := 27) dE_delete_27 rfl ?_
        refine zs_get (pc := 28) dE_delete_28 fE_9 (by first | exact he | exact zu_s | (rw [zu_n hne]; exact he) | exact hc) (by rfl) ?_
        refine zs_iload_n (pc := 31) dE_delete_31 rfl ?_
        refine zn_iald (pc := 32) dE_delete_32 (by first | exact he | exact zu_s | (rw [zu_n hne]; exact he) | exact hc) (by omega) (by decide) ?_
        refine zn_iastU (pc := 33) dE_delete_33 (by omega) (by decide) ?_
        refine zn_iinc (pc := 34) (ls2 := [_, _, _, _]) dE_delete_34 rfl (Nat.le_of_ble_eq_true rfl) rfl ?_
        refine zn_iinc (pc := 37) (ls2 := [_, _, _, _]) dE_delete_37 rfl (Nat.le_of_ble_eq_true rfl) rfl ?_
        refine zs_goto (pc := 40) 4 dE_delete_40 rfl ?_
        rw [eq1]
        have e3 : zup (zdl q t j) j (q (6 + j)) = zdl q t (j + 1) := by
          funext k
          unfold zup zdl
          (repeat' split) <;> first | rfl | (exfalso; omega) | (congr 1; omega) | omega
        rw [e3]
        exact hz
      · rw [if_neg (by omega)] at hz
        rw [if_neg hlt]
        refine zs_aload_n (pc := 22) dE_delete_22 rfl ?_
        refine zs_get (pc := 23) dE_delete_23 fE_9 (by first | exact he | exact zu_s | (rw [zu_n hne]; exact he) | exact hc) (by rfl) ?_
        refine zs_iload_n (pc := 26) dE_delete_26 rfl ?_
        refine zs_aload_n (pc := 27) dE_delete_27 rfl ?_
        refine zs_get (pc := 28) dE_delete_28 fE_9 (by first | exact he | exact zu_s | (rw [zu_n hne]; exact he) | exact hc) (by rfl) ?_
        refine zs_iload_n (pc := 31) dE_delete_31 rfl ?_
        refine zn_iald (pc := 32) dE_delete_32 (by first | exact he | exact zu_s | (rw [zu_n hne]; exact he) | exact hc) (by omega) (by decide) ?_
        refine zn_iastU (pc := 33) dE_delete_33 (by omega) (by decide) ?_
        refine zn_iinc (pc := 34) (ls2 := [_, _, _, _]) dE_delete_34 rfl (Nat.le_of_ble_eq_true rfl) rfl ?_
        refine zn_iinc (pc := 37) (ls2 := [_, _, _, _]) dE_delete_37 rfl (Nat.le_of_ble_eq_true rfl) rfl ?_
        refine zs_goto (pc := 40) 4 dE_delete_40 rfl ?_
        rw [eq1]
        have e3 : zup (zdl q t j) (j - 1) (q (6 + j)) = zdl q t (j + 1) := by
          funext k
          unfold zup zdl
          (repeat' split) <;> first | rfl | (exfalso; omega) | (congr 1; omega) | omega
        rw [e3]
        rw [show j - 1 + 1 = j + 1 - 1 by omega]
        exact hz
theorem s_E_delete {Γ : zG} {l : Launch} (hl : l.stackTraces = false) {d : Nat} {h : zH} {n : Nat} {e c v t : Nat} {q : Nat → Nat} (hb : zEb q) (he : h e = some (zEo q c)) (hc : h c = some (zEc q)) (hne : e ≠ c) (hv : v < 1000) (ht : t < q 5) (ht1 : q (6 + t) = v) (ht2 : ∀ i, i < q 5 → i ≠ t → q (6 + i) ≠ v) : zC Γ l d mE_delete [.ref e, .int (nI v)] h n 0 0 (zR none (zEh h e c (zdel q t)) n) := by
  refine zC_of (ls := [some (.ref e), some (.int (nI v)), none, none]) hl (by decide +kernel) rfl (Nat.le_of_ble_eq_true rfl) rfl ?_
  refine zs_iconst (pc := 0) dE_delete_0 zi_0 ?_
  refine zs_istore_n (pc := 1) (ls2 := [_, _, _, _]) dE_delete_1 (Nat.le_of_ble_eq_true rfl) rfl ?_
  refine zs_iconst (pc := 2) dE_delete_2 zi_0 ?_
  refine zs_istore_n (pc := 3) (ls2 := [_, _, _, _]) dE_delete_3 (Nat.le_of_ble_eq_true rfl) rfl ?_
  have h0 := lp_E_delete (Γ := Γ) hl (d := d) (h := h) (n := n) hb he hc hne hv ht ht1 ht2 (q 5) 0 (by omega)
  rw [zu_id (by rw [hc]; congr 1; refine zAr_ext fun j => ?_; unfold zdl; rw [if_neg (by omega)]), if_pos (Nat.zero_le _)] at h0
  exact h0
/-! the lowest code from c1 on -/
def zLow (q : Nat → Nat) (c1 r : Nat) : Prop := (r = 1000 ∧ ∀ i, i < q 5 → q (6 + i) < c1) ∨ ∃ i, i < q 5 ∧ r = q (6 + i) ∧ c1 ≤ r ∧ ∀ j, j < i → q (6 + j) < c1
theorem lp_E_lowestAbove {Γ : zG} {l : Launch} (hl : l.stackTraces = false) {d : Nat} {h : zH} {n : Nat} {e c c1 : Nat} {x : Int32} {q : Nat → Nat} (hb : zEb q) (he : h e = some (zEo q c)) (hc : h c = some (zEc q)) (hx : ∀ m, m < 2 ^ 31 → (nI m ≤ x ↔ m < c1)) : ∀ i j, i + j = q 5 → (∀ k, k < j → q (6 + k) < c1) → Z Γ l mE_lowestAbove d 0 0 (zFin Γ (fun o h2 n2 => (∃ r, o = .inl (some (.int (nI r))) ∧ zLow q c1 r) ∧ h2 = h ∧ n2 = n) 0 0) 2 [some (.ref e), some (.int x), some (.int (nI j))] [] h n 0 0 := by
  obtain ⟨b0, b1, b2, b3, b4, b5, b6⟩ := hb
  intro i
  induction i with
  | zero =>
    intro j hj hk
    refine zs_iload_n (pc := 2) dE_lowestAbove_2 rfl ?_
    refine zs_aload_n (pc := 3) dE_lowestAbove_3 rfl ?_
    refine zs_get (pc := 4) dE_lowestAbove_4 fE_31 (by first | exact he | exact hc) (by rfl) ?_
    refine zn_icmp_ge (pc := 7) 33 dE_lowestAbove_7 rfl (by omega) (by omega) (fun _ => ?_) (fun h9 => absurd h9 (by omega))
    refine zs_sipush (pc := 33) dE_lowestAbove_33 (zi_s 1000 (by decide)) ?_
    exact zs_iret (pc := 36) dE_lowestAbove_36 rfl rfl (by omega) (by omega) (⟨⟨1000, rfl, Or.inl ⟨rfl, fun i hi => hk i (by omega)⟩⟩, rfl, rfl⟩)
  | succ i ih =>
    intro j hj hk
    have b7 := b6 j (by omega)
    refine zs_iload_n (pc := 2) dE_lowestAbove_2 rfl ?_
    refine zs_aload_n (pc := 3) dE_lowestAbove_3 rfl ?_
    refine zs_get (pc := 4) dE_lowestAbove_4 fE_31 (by first | exact he | exact hc) (by rfl) ?_
    refine zn_icmp_ge (pc := 7) 33 dE_lowestAbove_7 rfl (by omega) (by omega) (fun h9 => absurd h9 (by omega)) (fun _ => ?_)
    refine zs_aload_n (pc := 10) dE_lowestAbove_10 rfl ?_
    refine zs_get (pc := 11) dE_lowestAbove_11 fE_9 (by first | exact he | exact hc) (by rfl) ?_
    refine zs_iload_n (pc := 14) dE_lowestAbove_14 rfl ?_
    refine zn_iald (pc := 15) dE_lowestAbove_15 (by first | exact he | exact hc) (by omega) (by decide) ?_
    refine zs_iload_n (pc := 16) dE_lowestAbove_16 rfl ?_
    refine zs_icmp_le (pc := 17) 27 dE_lowestAbove_17 rfl (fun h9 => ?_) (fun h9 => ?_)
    · refine zn_iinc (pc := 27) (ls2 := [_, _, _]) dE_lowestAbove_27 rfl (Nat.le_of_ble_eq_true rfl) rfl ?_
      refine zs_goto (pc := 30) 2 dE_lowestAbove_30 rfl ?_
      have h8 := (hx _ (by omega)).mp h9
      refine ih (j + 1) (by omega) (fun k hk9 => ?_)
      by_cases h7 : k = j
      · subst h7; exact h8
      · exact hk k (by omega)
    · have h8 : ¬ q (6 + j) < c1 := fun q9 => h9 ((hx _ (by omega)).mpr q9)
      refine zs_aload_n (pc := 20) dE_lowestAbove_20 rfl ?_
      refine zs_get (pc := 21) dE_lowestAbove_21 fE_9 (by first | exact he | exact hc) (by rfl) ?_
      refine zs_iload_n (pc := 24) dE_lowestAbove_24 rfl ?_
      refine zn_iald (pc := 25) dE_lowestAbove_25 (by first | exact he | exact hc) (by omega) (by decide) ?_
      exact zs_iret (pc := 26) dE_lowestAbove_26 rfl rfl (by omega) (by omega) (⟨⟨q (6 + j), rfl, Or.inr ⟨j, by omega, rfl, by omega, hk⟩⟩, rfl, rfl⟩)
theorem s_E_lowestAbove {Γ : zG} {l : Launch} (hl : l.stackTraces = false) {d : Nat} {h : zH} {n : Nat} {e c c1 : Nat} {x : Int32} {q : Nat → Nat} (hb : zEb q) (he : h e = some (zEo q c)) (hc : h c = some (zEc q)) (hx : ∀ m, m < 2 ^ 31 → (nI m ≤ x ↔ m < c1)) : zC Γ l d mE_lowestAbove [.ref e, .int x] h n 0 0 (fun o h2 n2 => (∃ r, o = .inl (some (.int (nI r))) ∧ zLow q c1 r) ∧ h2 = h ∧ n2 = n) := by
  refine zC_of (ls := [some (.ref e), some (.int x), none]) hl (by decide +kernel) rfl (Nat.le_of_ble_eq_true rfl) rfl ?_
  refine zs_iconst (pc := 0) dE_lowestAbove_0 zi_0 ?_
  refine zs_istore_n (pc := 1) (ls2 := [_, _, _]) dE_lowestAbove_1 (Nat.le_of_ble_eq_true rfl) rfl ?_
  exact lp_E_lowestAbove hl hb he hc hx (q 5) 0 rfl (fun k hk => by omega)
/-! merging into an entry -/
def zabs (q q2 : Nat → Nat) : Nat → Nat → Nat
  | 0 => q
  | n + 1 => if zin (zabs q q2 n) (q2 (6 + n)) = true then zabs q q2 n else zins (zabs q q2 n) (q2 (6 + n))
theorem zabs_s {q q2 : Nat → Nat} {n : Nat} : zabs q q2 (n + 1) = if zin (zabs q q2 n) (q2 (6 + n)) = true then zabs q q2 n else zins (zabs q q2 n) (q2 (6 + n)) := rfl
def zmrg (q q2 : Nat → Nat) : Nat → Nat := fun j => if j = 1 then max (q 1) (q2 1) else if j = 2 then min (q 2) (q2 2) else if j = 3 then q 3 + q2 3 else zabs q q2 (q2 5) j
theorem zins_lo {q : Nat → Nat} {v j : Nat} (h : j < 5) : zins q v j = q j := by unfold zins; rw [if_neg (by omega), if_pos (by omega)]
theorem zins_5 {q : Nat → Nat} {v : Nat} : zins q v 5 = q 5 + 1 := rfl
theorem zEb_ins {q : Nat → Nat} {v : Nat} (hb : zEb q) (h5 : q 5 < 6) (hv : v < 1000) : zEb (zins q v) := by
  obtain ⟨b0, b1, b2, b3, b4, b5, b6⟩ := hb
  refine ⟨by rw [zins_lo (by decide)]; exact b0, by rw [zins_lo (by decide)]; exact b1, by rw [zins_lo (by decide)]; exact b2, by rw [zins_lo (by decide)]; exact b3, by rw [zins_lo (by decide)]; exact b4, by rw [zins_5]; omega, fun i hi => ?_⟩
  rw [zins_5] at hi
  have hp := zpos_le q v (q 5)
  unfold zins
  rw [if_neg (by omega)]
  by_cases h1 : i < zpos q v (q 5)
  · rw [if_pos (by omega)]; exact b6 i (by omega)
  · rw [if_neg (by omega)]
    by_cases h2 : i = zpos q v (q 5)
    · rw [if_pos (by omega)]; exact hv
    · rw [if_neg (by omega), if_pos (by omega), show 6 + i - 1 = 6 + (i - 1) by omega]
      exact b6 (i - 1) (by omega)
theorem zabs_lo {q q2 : Nat → Nat} {j : Nat} (h : j < 5) (n : Nat) : zabs q q2 n j = q j := by
  induction n with
  | zero => rfl
  | succ n ih => unfold zabs; split; exact ih; rw [zins_lo h]; exact ih
theorem zabs_mono {q q2 : Nat → Nat} (n : Nat) : zabs q q2 n 5 ≤ zabs q q2 (n + 1) 5 := by
  show _ ≤ (if _ then _ else _ : Nat → Nat) 5
  split
  · exact Nat.le_refl _
  · rw [zins_5]; omega
theorem zabs_mono2 {q q2 : Nat → Nat} (m : Nat) : ∀ k, zabs q q2 m 5 ≤ zabs q q2 (m + k) 5 := by
  intro k
  induction k with
  | zero => exact Nat.le_refl _
  | succ k ih => exact Nat.le_trans ih (zabs_mono (m + k))
theorem zabs_b {q q2 : Nat → Nat} (hb : zEb q) (hb2 : zEb q2) (hf : zabs q q2 (q2 5) 5 ≤ 6) : ∀ n, n ≤ q2 5 → zEb (zabs q q2 n) := by
  intro n
  induction n with
  | zero => intro _; exact hb
  | succ n ih =>
    intro hn
    have h1 := ih (by omega)
    have h2 := zabs_mono2 (q := q) (q2 := q2) (n + 1) (q2 5 - (n + 1))
    rw [show n + 1 + (q2 5 - (n + 1)) = q2 5 by omega] at h2
    rw [zabs_s] at h2 ⊢
    split
    · exact h1
    · rename_i h3
      rw [if_neg h3, zins_5] at h2
      exact zEb_ins h1 (by omega) (hb2.2.2.2.2.2.2 n (by omega))
theorem lp_E_absorb {Γ : zG} {l : Launch} (hl : l.stackTraces = false) {d : Nat} (hd : 1 ≤ d) {h : zH} {n : Nat} {e c e2 c2 : Nat} {q q2 : Nat → Nat} (hb : zEb q) (hne : e ≠ c) (hb2 : zEb q2) (he2 : h e2 = some (zEo q2 c2)) (hc2 : h c2 = some (zEc q2)) (hn1 : e2 ≠ e) (hn3 : e2 ≠ c) (hn2 : c2 ≠ e) (hn4 : c2 ≠ c) (hf : zabs q q2 (q2 5) 5 ≤ 6) : ∀ i j, i + j = q2 5 → Z Γ l mE_absorb d 0 0 (zFin Γ (zR none (zEh h e c (zmrg q q2)) n) 0 0) 2 [some (.ref e), some (.ref e2), some (.int (nI j))] [] (zEh h e c (zabs q q2 j)) n 0 0 := by
  have hB := zabs_b hb hb2 hf
  obtain ⟨b0, b1, b2, b3, b4, b5, b6⟩ := hb2
  intro i
  induction i with
  | zero =>
    intro j hj
    have e9 : j = q2 5 := by omega
    subst e9
    have g1 := zabs_lo (q := q) (q2 := q2) (j := 1) (by decide) (q2 5)
    have g2 := zabs_lo (q := q) (q2 := q2) (j := 2) (by decide) (q2 5)
    have g3 := zabs_lo (q := q) (q2 := q2) (j := 3) (by decide) (q2 5)
    obtain ⟨a0, a1, a2, a3, a4, a5, a6⟩ := hb
    refine zs_iload_n (pc := 2) dE_absorb_2 rfl ?_
    refine zs_aload_n (pc := 3) dE_absorb_3 rfl ?_
    refine zs_get (pc := 4) dE_absorb_4 fE_31 (by first | exact zEh_e hne | exact zEh_c | exact zu_s | (rw [zEh_n hn1 hn3]; exact he2) | (rw [zEh_n hn2 hn4]; exact hc2) | (rw [zu_n hn1, zEh_n hn1 hn3]; exact he2)) (by rfl) ?_
    refine zn_icmp_ge (pc := 7) 39 dE_absorb_7 rfl (by omega) (by omega) (fun _ => ?_) (fun h9 => absurd h9 (by omega))
    refine zs_aload_n (pc := 39) dE_absorb_39 rfl ?_
    refine zs_aload_n (pc := 40) dE_absorb_40 rfl ?_
    refine zs_get (pc := 41) dE_absorb_41 fE_19 (by first | exact zEh_e hne | exact zEh_c | exact zu_s | (rw [zEh_n hn1 hn3]; exact he2) | (rw [zEh_n hn2 hn4]; exact hc2) | (rw [zu_n hn1, zEh_n hn1 hn3]; exact he2)) (by rfl) ?_
    refine zs_aload_n (pc := 44) dE_absorb_44 rfl ?_
    refine zs_get (pc := 45) dE_absorb_45 fE_19 (by first | exact zEh_e hne | exact zEh_c | exact zu_s | (rw [zEh_n hn1 hn3]; exact he2) | (rw [zEh_n hn2 hn4]; exact hc2) | (rw [zu_n hn1, zEh_n hn1 hn3]; exact he2)) (by rfl) ?_
    refine zn_mmax (pc := 48) dE_absorb_48 kE_60 (Nat.le_of_ble_eq_true rfl) (by omega) (by omega) (by omega) (by omega) ?_
    refine zs_put (pc := 51) (fs2 := [_, _, _, _, _, _, _]) dE_absorb_51 fE_19 (by first | exact zEh_e hne | exact zEh_c | exact zu_s | (rw [zEh_n hn1 hn3]; exact he2) | (rw [zEh_n hn2 hn4]; exact hc2) | (rw [zu_n hn1, zEh_n hn1 hn3]; exact he2)) (by rfl) (by rfl) (by exact Nat.le_of_ble_eq_true rfl) (by rfl) ?_
    refine zs_aload_n (pc := 54) dE_absorb_54 rfl ?_
    refine zs_aload_n (pc := 55) dE_absorb_55 rfl ?_
    refine zs_get (pc := 56) dE_absorb_56 fE_22 (by first | exact zEh_e hne | exact zEh_c | exact zu_s | (rw [zEh_n hn1 hn3]; exact he2) | (rw [zEh_n hn2 hn4]; exact hc2) | (rw [zu_n hn1, zEh_n hn1 hn3]; exact he2)) (by rfl) ?_
    refine zs_aload_n (pc := 59) dE_absorb_59 rfl ?_
    refine zs_get (pc := 60) dE_absorb_60 fE_22 (by first | exact zEh_e hne | exact zEh_c | exact zu_s | (rw [zEh_n hn1 hn3]; exact he2) | (rw [zEh_n hn2 hn4]; exact hc2) | (rw [zu_n hn1, zEh_n hn1 hn3]; exact he2)) (by rfl) ?_
    refine zn_mmin (pc := 63) dE_absorb_63 kE_65 (Nat.le_of_ble_eq_true rfl) (by omega) (by omega) (by omega) (by omega) ?_
    refine zs_putU (pc := 66) (fs2 := [_, _, _, _, _, _, _]) dE_absorb_66 fE_22 (by rfl) (by rfl) (by exact Nat.le_of_ble_eq_true rfl) (by rfl) ?_
    refine zs_aload_n (pc := 69) dE_absorb_69 rfl ?_
    refine zs_dup (pc := 70) dE_absorb_70 rfl ?_
    refine zs_get (pc := 71) dE_absorb_71 fE_25 (by first | exact zEh_e hne | exact zEh_c | exact zu_s | (rw [zEh_n hn1 hn3]; exact he2) | (rw [zEh_n hn2 hn4]; exact hc2) | (rw [zu_n hn1, zEh_n hn1 hn3]; exact he2)) (by rfl) ?_
    refine zs_aload_n (pc := 74) dE_absorb_74 rfl ?_
    refine zs_get (pc := 75) dE_absorb_75 fE_25 (by first | exact zEh_e hne | exact zEh_c | exact zu_s | (rw [zEh_n hn1 hn3]; exact he2) | (rw [zEh_n hn2 hn4]; exact hc2) | (rw [zu_n hn1, zEh_n hn1 hn3]; exact he2)) (by rfl) ?_
    refine zn_iadd (pc := 78) dE_absorb_78 ?_
    refine zs_putU (pc := 79) (fs2 := [_, _, _, _, _, _, _]) dE_absorb_79 fE_25 (by rfl) (by rfl) (by exact Nat.le_of_ble_eq_true rfl) (by rfl) ?_
    rw [g1, g2, g3]
    have e2 : zEc (zmrg q q2) = zEc (zabs q q2 (q2 5)) := by
      refine zAr_ext fun k => ?_
      unfold zmrg
      rw [if_neg (by omega), if_neg (by omega), if_neg (by omega)]
    have e3 : zEh h e c (zmrg q q2) = zu (zEh h e c (zabs q q2 (q2 5))) e (zEo (zmrg q q2) c) := by
      unfold zEh
      rw [e2, zu_cm (a := c) (b := e) (Ne.symm hne), zu_zu]
    rw [e3]
    exact zs_vret (pc := 82) dE_absorb_82 rfl (by omega) (by omega) (⟨rfl, rfl, rfl⟩)
  | succ i ih =>
    intro j hj
    have hz := ih (j + 1) (by omega)
    have b7 := b6 j (by omega)
    have h2 := zabs_mono2 (q := q) (q2 := q2) (j + 1) (q2 5 - (j + 1))
    rw [show j + 1 + (q2 5 - (j + 1)) = q2 5 by omega] at h2
    refine zs_iload_n (pc := 2) dE_absorb_2 rfl ?_
    refine zs_aload_n (pc := 3) dE_absorb_3 rfl ?_
    refine zs_get (pc := 4) dE_absorb_4 fE_31 (by first | exact zEh_e hne | exact zEh_c | exact zu_s | (rw [zEh_n hn1 hn3]; exact he2) | (rw [zEh_n hn2 hn4]; exact hc2) | (rw [zu_n hn1, zEh_n hn1 hn3]; exact he2)) (by rfl) ?_
    refine zn_icmp_ge (pc := 7) 39 dE_absorb_7 rfl (by omega) (by omega) (fun h9 => absurd h9 (by omega)) (fun _ => ?_)
    refine zs_aload_n (pc := 10) dE_absorb_10 rfl ?_
    refine zs_aload_n (pc := 11) dE_absorb_11 rfl ?_
    refine zs_get (pc := 12) dE_absorb_12 fE_9 (by first | exact zEh_e hne | exact zEh_c | exact zu_s | (rw [zEh_n hn1 hn3]; exact he2) | (rw [zEh_n hn2 hn4]; exact hc2) | (rw [zu_n hn1, zEh_n hn1 hn3]; exact he2)) (by rfl) ?_
    refine zs_iload_n (pc := 15) dE_absorb_15 rfl ?_
    refine zn_iald (pc := 16) dE_absorb_16 (by first | exact zEh_e hne | exact zEh_c | exact zu_s | (rw [zEh_n hn1 hn3]; exact he2) | (rw [zEh_n hn2 hn4]; exact hc2) | (rw [zu_n hn1, zEh_n hn1 hn3]; exact he2)) (by omega) (by decide) ?_
    refine zcV1_1 (pc := 17) (d2 := d - 1) (s_E_holds hl (hB j (by omega)) (zEh_e hne) zEh_c (by omega)) dE_absorb_17 kE_52 mdE_holds miE_holds mvE_holds rfl (by first | exact zEh_e hne | exact zEh_c | exact zu_s | (rw [zEh_n hn1 hn3]; exact he2) | (rw [zEh_n hn2 hn4]; exact hc2) | (rw [zu_n hn1, zEh_n hn1 hn3]; exact he2)) rfl (Nat.le_of_ble_eq_true rfl) (by omega) (by omega) (by omega) ?_
    rw [zabs_s] at hz h2
    cases hp : zin (zabs q q2 j) (q2 (6 + j)) with
    | true =>
      rw [hp, if_pos rfl] at hz
      refine zs_if_ne (pc := 20) 33 dE_absorb_20 rfl (fun _ => ?_) (fun h9 => absurd h9 (by decide))
      refine zn_iinc (pc := 33) (ls2 := [_, _, _]) dE_absorb_33 rfl (Nat.le_of_ble_eq_true rfl) rfl ?_
      refine zs_goto (pc := 36) 2 dE_absorb_36 rfl ?_
      exact hz
    | false =>
      rw [hp, if_neg (by decide)] at hz h2
      rw [zins_5] at h2
      refine zs_if_ne (pc := 20) 33 dE_absorb_20 rfl (fun h9 => absurd h9 (by decide)) (fun _ => ?_)
      refine zs_aload_n (pc := 23) dE_absorb_23 rfl ?_
      refine zs_aload_n (pc := 24) dE_absorb_24 rfl ?_
      refine zs_get (pc := 25) dE_absorb_25 fE_9 (by first | exact zEh_e hne | exact zEh_c | exact zu_s | (rw [zEh_n hn1 hn3]; exact he2) | (rw [zEh_n hn2 hn4]; exact hc2) | (rw [zu_n hn1, zEh_n hn1 hn3]; exact he2)) (by rfl) ?_
      refine zs_iload_n (pc := 28) dE_absorb_28 rfl ?_
      refine zn_iald (pc := 29) dE_absorb_29 (by first | exact zEh_e hne | exact zEh_c | exact zu_s | (rw [zEh_n hn1 hn3]; exact he2) | (rw [zEh_n hn2 hn4]; exact hc2) | (rw [zu_n hn1, zEh_n hn1 hn3]; exact he2)) (by omega) (by decide) ?_
      refine zcV0_1 (pc := 30) (d2 := d - 1) (s_E_insert hl (hB j (by omega)) (by omega) (zEh_e hne) zEh_c hne b7) dE_absorb_30 kE_56 mdE_insert miE_insert mvE_insert rfl (by first | exact zEh_e hne | exact zEh_c | exact zu_s | (rw [zEh_n hn1 hn3]; exact he2) | (rw [zEh_n hn2 hn4]; exact hc2) | (rw [zu_n hn1, zEh_n hn1 hn3]; exact he2)) rfl (Nat.le_of_ble_eq_true rfl) (by omega) (by omega) (by omega) ?_
      refine zn_iinc (pc := 33) (ls2 := [_, _, _]) dE_absorb_33 rfl (Nat.le_of_ble_eq_true rfl) rfl ?_
      refine zs_goto (pc := 36) 2 dE_absorb_36 rfl ?_
      rw [zEh_zEh hne]
      exact hz
theorem s_E_absorb {Γ : zG} {l : Launch} (hl : l.stackTraces = false) {d : Nat} (hd : 1 ≤ d) {h : zH} {n : Nat} {e c e2 c2 : Nat} {q q2 : Nat → Nat} (hb : zEb q) (he : h e = some (zEo q c)) (hc : h c = some (zEc q)) (hne : e ≠ c) (hb2 : zEb q2) (he2 : h e2 = some (zEo q2 c2)) (hc2 : h c2 = some (zEc q2)) (hn1 : e2 ≠ e) (hn3 : e2 ≠ c) (hn2 : c2 ≠ e) (hn4 : c2 ≠ c) (hf : zabs q q2 (q2 5) 5 ≤ 6) : zC Γ l d mE_absorb [.ref e, .ref e2] h n 0 0 (zR none (zEh h e c (zmrg q q2)) n) := by
  refine zC_of (ls := [some (.ref e), some (.ref e2), none]) hl (by decide +kernel) rfl (Nat.le_of_ble_eq_true rfl) rfl ?_
  refine zs_iconst (pc := 0) dE_absorb_0 zi_0 ?_
  refine zs_istore_n (pc := 1) (ls2 := [_, _, _]) dE_absorb_1 (Nat.le_of_ble_eq_true rfl) rfl ?_
  have h0 := lp_E_absorb (Γ := Γ) hl hd (h := h) (n := n) hb hne hb2 he2 hc2 hn1 hn3 hn2 hn4 hf (q2 5) 0 rfl
  rw [show zEh h e c (zabs q q2 0) = h from zEh_id he hc] at h0
  exact h0

