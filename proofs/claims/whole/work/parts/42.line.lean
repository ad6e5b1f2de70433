/-! the line -/
/-- the text's characters stand in the array -/
def zTx (u : Nat → Nat) (L : List Nat) : Prop := ∀ i, i < L.length → L[i]? = some (u i)
theorem zTx.put {u : Nat → Nat} {L : List Nat} {c : Nat} (h : zTx u L) : zTx (zup u L.length c) (L ++ [c]) := by
  intro i hi
  rw [List.length_append] at hi
  have hi2 : i < L.length + 1 := hi
  by_cases e : i = L.length
  · subst e
    rw [zup_s, List.getElem?_append_right (Nat.le_refl _), Nat.sub_self]
    rfl
  · rw [zup_n e, List.getElem?_append_left (by omega)]
    exact h i (by omega)
def zLo (a n : Nat) : zE := .inr (3, [.ref (a + 1), .ref (a + 2), .int (nI n)])
def LH (h : zH) (a : Nat) (L : List Nat) : Prop := ∃ u w : Nat → Nat, h a = some (zLo a L.length) ∧ h (a + 1) = some (zAr 1 480 u) ∧ h (a + 2) = some (zAr 1 10 w) ∧ zTx u L
theorem LH.o {h : zH} {a : Nat} {L : List Nat} (hT : LH h a L) : h a = some (zLo a L.length) := by
  obtain ⟨u, w, t1, -⟩ := hT
  exact t1
theorem LH.fr {h h1 : zH} {a r m : Nat} {L : List Nat} (hT : LH h a L) (hf : zfr r m h h1) (hd : a + 3 ≤ r ∨ r + m ≤ a) : LH h1 a L := by
  obtain ⟨u, w, g1, g2, g3, g4⟩ := hT
  exact ⟨u, w, by rw [hf _ (by omega)]; exact g1, by rw [hf _ (by omega)]; exact g2, by rw [hf _ (by omega)]; exact g3, g4⟩
def zLq (a k : Nat) (h : zH) (n : Nat) (L : List Nat) : zQ := fun o h1 n1 => o = .inl none ∧ n1 = n ∧ zfr a k h h1 ∧ LH h1 a L
theorem s_L_clear {Γ : zG} {l : Launch} (hl : l.stackTraces = false) {d : Nat} {h : zH} {n : Nat} {a : Nat} {L : List Nat} (hT : LH h a L) : zC Γ l d mL_clear [.ref a] h n 0 0 (zLq a 3 h n []) := by
  obtain ⟨u, w, t1, t2, t3, t4⟩ := hT
  refine zC_of (ls := [some (.ref a)]) hl (by decide +kernel) rfl (Nat.le_of_ble_eq_true rfl) rfl ?_
  refine zs_aload_n (pc := 0) dL_clear_0 rfl ?_
  refine zs_iconst (pc := 1) dL_clear_1 zi_0 ?_
  refine zs_put (pc := 2) (fs2 := [_, _, _]) dL_clear_2 fL_18 (by exact t1) (by rfl) (by rfl) (by exact Nat.le_of_ble_eq_true rfl) (by rfl) ?_
  exact zs_vret (pc := 5) dL_clear_5 rfl (by omega) (by omega) (⟨rfl, rfl, zfr.u (by omega) (by omega), u, w, zu_s, by rw [zu_n (by omega)]; exact t2, by rw [zu_n (by omega)]; exact t3, fun i hi => absurd hi (by show ¬ i < 0; omega)⟩)
theorem s_L_put {Γ : zG} {l : Launch} (hl : l.stackTraces = false) {d : Nat} {h : zH} {n : Nat} {a c : Nat} {L : List Nat} (hT : LH h a L) (hL : L.length < 480) (hc : c < 65536) : zC Γ l d mL_put [.ref a, .int (nI c)] h n 0 0 (zLq a 2 h n (L ++ [c])) := by
  obtain ⟨u, w, t1, t2, t3, t4⟩ := hT
  have e : (L ++ [c]).length = L.length + 1 := by rw [List.length_append]; rfl
  refine zC_of (ls := [some (.ref a), some (.int (nI c))]) hl (by decide +kernel) rfl (Nat.le_of_ble_eq_true rfl) rfl ?_
  refine zs_aload_n (pc := 0) dL_put_0 rfl ?_
  refine zs_get (pc := 1) dL_put_1 fL_18 (by first | exact t1 | exact t2 | (rw [zu_n (by omega)]; exact t1)) (by rfl) ?_
  refine zs_sipush (pc := 4) dL_put_4 (zi_s 480 (by decide)) ?_
  refine zn_icmp_ge (pc := 7) 30 dL_put_7 rfl (by omega) (by omega) (fun h9 => absurd h9 (by omega)) (fun _ => ?_)
  refine zs_aload_n (pc := 10) dL_put_10 rfl ?_
  refine zs_get (pc := 11) dL_put_11 fL_9 (by first | exact t1 | exact t2 | (rw [zu_n (by omega)]; exact t1)) (by rfl) ?_
  refine zs_aload_n (pc := 14) dL_put_14 rfl ?_
  refine zs_get (pc := 15) dL_put_15 fL_18 (by first | exact t1 | exact t2 | (rw [zu_n (by omega)]; exact t1)) (by rfl) ?_
  refine zs_iload_n (pc := 18) dL_put_18 rfl ?_
  refine zn_cast (pc := 19) dL_put_19 (by first | exact t1 | exact t2 | (rw [zu_n (by omega)]; exact t1)) (by omega) (by first | decide | assumption) (by omega) ?_
  refine zs_aload_n (pc := 20) dL_put_20 rfl ?_
  refine zs_dup (pc := 21) dL_put_21 rfl ?_
  refine zs_get (pc := 22) dL_put_22 fL_18 (by first | exact t1 | exact t2 | (rw [zu_n (by omega)]; exact t1)) (by rfl) ?_
  refine zs_iconst (pc := 25) dL_put_25 zi_1 ?_
  refine zn_iadd (pc := 26) dL_put_26 ?_
  refine zs_put (pc := 27) (fs2 := [_, _, _]) dL_put_27 fL_18 (by first | exact t1 | exact t2 | (rw [zu_n (by omega)]; exact t1)) (by rfl) (by rfl) (by exact Nat.le_of_ble_eq_true rfl) (by rfl) ?_
  exact zs_vret (pc := 30) dL_put_30 rfl (by omega) (by omega) (⟨rfl, rfl, (zfr.u (by omega) (by omega)).tr (zfr.u (by omega) (by omega)), zup u L.length c, w, by rw [e]; exact zu_s, by rw [zu_n (by omega)]; exact zu_s, by rw [zu_n (by omega), zu_n (by omega)]; exact t3, t4.put⟩)
/-- a number below 0 where b says so -/
def zsg (b : Bool) (m : Nat) : Int32 := if b = true then -(nI m) else nI m
theorem zsg_t : ∀ m, m < 151 → -(nI m) / 10 = -(nI (m / 10)) ∧ -(nI m) - -(nI m) / 10 * 10 = -(nI (m % 10)) ∧ (-(nI m) = 0 ↔ m = 0) ∧ (0 ≤ -(nI m) ↔ m = 0) := by decide +kernel
theorem zsg_a : ∀ m, m < 10 → (if 0 ≤ -(nI m) then -(nI m) else 0 - -(nI m)) = nI m ∧ (if 0 ≤ nI m then nI m else 0 - nI m) = nI m := by decide +kernel
def zsb (b : Bool) (m : Nat) : Prop := m < 10 ^ 7 ∧ (b = true → m < 151)
theorem zsb.div {b : Bool} {m : Nat} (h : zsb b m) : zsb b (m / 10) := by
  have h1 := h.1
  have h2 := h.2
  exact ⟨by omega, fun q => by have := h2 q; omega⟩
theorem zsg_div {b : Bool} {m : Nat} (h : zsb b m) : zsg b m / 10 = zsg b (m / 10) := by
  obtain ⟨h1, h2⟩ := h
  cases b with
  | true => exact (zsg_t m (h2 rfl)).1
  | false => exact pk_div (by omega) (by decide) (by decide)
theorem zsg_rem {b : Bool} {m : Nat} (h : zsb b m) : zsg b m - zsg b m / 10 * 10 = zsg b (m % 10) := by
  obtain ⟨h1, h2⟩ := h
  cases b with
  | true => exact (zsg_t m (h2 rfl)).2.1
  | false => exact pk_rem (by omega) (by decide) (by decide)
theorem zsg_abs {b : Bool} {m : Nat} (h : m < 10) : (if 0 ≤ zsg b m then zsg b m else 0 - zsg b m) = nI m := by
  cases b with
  | true => exact (zsg_a m h).1
  | false => exact (zsg_a m h).2
theorem zsg_0 {b : Bool} {m : Nat} (h : zsb b m) : zsg b m = 0 ↔ m = 0 := by
  obtain ⟨h1, h2⟩ := h
  cases b with
  | true => exact (zsg_t m (h2 rfl)).2.2.1
  | false => exact nI_eq (b := 0) (by omega) (by decide)
theorem zch {c : Nat} (h : c < 65536) : ((nI c).toUInt32 % 65536).toInt32 = nI c := Value.int.inj (pk_charN h).1
theorem s_L_digitOf {Γ : zG} {l : Launch} (hl : l.stackTraces = false) {d : Nat} {h9 : zH} {n : Nat} {b : Bool} {m : Nat} (h : zsb b m) : zC Γ l d mL_digitOf [.int (zsg b m)] h9 n 0 0 (zR (some (.int (nI (48 + m % 10)))) h9 n) := by
  refine zC_of (ls := [some (.int (zsg b m))]) hl (by decide +kernel) rfl (Nat.le_of_ble_eq_true rfl) rfl ?_
  refine zs_bipush (pc := 0) dL_digitOf_0 (zi_b 48 (by decide)) ?_
  refine zs_iload_n (pc := 2) dL_digitOf_2 rfl ?_
  refine zs_bipush (pc := 3) dL_digitOf_3 (zi_b 10 (by decide)) ?_
  refine zs_irem (pc := 5) dL_digitOf_5 (by decide) ?_
  rw [show (nI 10 : Int32) = 10 from rfl, zsg_rem h]
  refine zs_mabs (pc := 6) dL_digitOf_6 kL_38 (Nat.le_of_ble_eq_true rfl) (by omega) (by omega) ?_
  rw [zsg_abs (by omega)]
  refine zn_iadd (pc := 9) dL_digitOf_9 ?_
  refine zs_i2c (pc := 10) dL_digitOf_10 ?_
  rw [zch (by omega)]
  exact zs_iret (pc := 11) dL_digitOf_11 rfl (pk_charN (by omega)).1 (by omega) (by omega) (⟨rfl, rfl, rfl⟩)
/-- how many digits a number has -/
def zD (m : Nat) : Nat := if m < 10 then 1 else if m < 100 then 2 else if m < 1000 then 3 else if m < 10000 then 4 else if m < 100000 then 5 else if m < 1000000 then 6 else 7
theorem zD_ok {m : Nat} (h : m < 10 ^ 7) : 1 ≤ zD m ∧ zD m ≤ 7 ∧ m < 10 ^ zD m ∧ (zD m = 1 ∨ 10 ^ (zD m - 1) ≤ m) := by
  unfold zD
  (repeat' split) <;> refine ⟨by decide, by decide, by omega, ?_⟩ <;> first | exact Or.inl rfl | (refine Or.inr ?_; omega)
theorem zD_st {m j : Nat} (h : m < 10 ^ 7) (hj : j < zD m) : m / 10 ^ (j + 1) = 0 ↔ j + 1 = zD m := by
  obtain ⟨h1, h2, h3, h4⟩ := zD_ok h
  rw [Nat.div_eq_zero_iff_lt (Nat.pow_pos (by decide))]
  constructor
  · intro q
    refine Classical.byContradiction fun hne => ?_
    have h5 : 10 ^ (j + 1) ≤ 10 ^ (zD m - 1) := Nat.pow_le_pow_right (by decide) (by omega)
    omega
  · intro q
    rw [q]
    exact h3
/-- the last n digits of a number -/
def ydl (m : Nat) : Nat → List Nat
  | 0 => []
  | n + 1 => (48 + m / 10 ^ n % 10) :: ydl m n
theorem ydl_len {m : Nat} : ∀ n, (ydl m n).length = n := by
  intro n
  induction n with
  | zero => rfl
  | succ n ih => show (ydl m n).length + 1 = n + 1; rw [ih]
def znum (b : Bool) (m : Nat) : List Nat := (if b = true then [45] else []) ++ ydl m (zD m)
theorem zsg_pow {b : Bool} {m j : Nat} (h : zsb b m) : zsb b (m / 10 ^ j) := by
  have h1 := Nat.div_le_self m (10 ^ j)
  exact ⟨Nat.lt_of_le_of_lt h1 h.1, fun q => Nat.lt_of_le_of_lt h1 (h.2 q)⟩
theorem lpa_L_putNumber {Γ : zG} {l : Launch} (hl : l.stackTraces = false) {d : Nat} (hd : 1 ≤ d) {h : zH} {n : Nat} {a m : Nat} {b : Bool} {L : List Nat} {x : Int32} {FN : List Frame → Array Value → State → State → Prop} (hm : zsb b m) (K : ∀ (h1 : zH) (w : Nat → Nat) (x2 : Int32) (x4 : Option Value), LH h1 a L → h1 (a + 2) = some (zAr 1 10 w) → (∀ i, i < zD m → w i = 48 + m / 10 ^ i % 10) → zfr a 3 h h1 → Z Γ l mL_putNumber d 0 0 FN 42 [some (.ref a), some (.int x), some (.int x2), some (.int (nI (zD m))), x4] [] h1 n 0 0) : ∀ i j, i + 1 + j = zD m → ∀ (h1 : zH) (u w : Nat → Nat) (x4 : Option Value), h1 a = some (zLo a L.length) → h1 (a + 1) = some (zAr 1 480 u) → h1 (a + 2) = some (zAr 1 10 w) → zTx u L → (∀ i, i < j → w i = 48 + m / 10 ^ i % 10) → zfr a 3 h h1 → Z Γ l mL_putNumber d 0 0 FN 14 [some (.ref a), some (.int x), some (.int (zsg b (m / 10 ^ j))), some (.int (nI j)), x4] [] h1 n 0 0 := by
  obtain ⟨d1, d2, -, -⟩ := zD_ok hm.1
  have step : ∀ j, j < zD m → ∀ (h1 : zH) (u w : Nat → Nat) (x4 : Option Value), h1 a = some (zLo a L.length) → h1 (a + 1) = some (zAr 1 480 u) → h1 (a + 2) = some (zAr 1 10 w) → zTx u L → (∀ i, i < j → w i = 48 + m / 10 ^ i % 10) → zfr a 3 h h1 → Z Γ l mL_putNumber d 0 0 FN 32 [some (.ref a), some (.int x), some (.int (zsg b (m / 10 ^ (j + 1)))), some (.int (nI (j + 1))), x4] [] (zu h1 (a + 2) (zAr 1 10 (zup w j (48 + m / 10 ^ j % 10)))) n 0 0 → Z Γ l mL_putNumber d 0 0 FN 14 [some (.ref a), some (.int x), some (.int (zsg b (m / 10 ^ j))), some (.int (nI j)), x4] [] h1 n 0 0 := by
    intro j hj h1 u w x4 t1 t2 t3 t4 hw hfr hz
    have e1 : m / 10 ^ j / 10 = m / 10 ^ (j + 1) := by rw [Nat.div_div_eq_div_mul, Nat.pow_succ]
    refine zs_aload_n (pc := 14) dL_putNumber_14 rfl ?_
    refine zs_get (pc := 15) dL_putNumber_15 fL_15 (by first | exact t1 | exact t2 | exact t3) (by rfl) ?_
    refine zs_iload_n (pc := 18) dL_putNumber_18 rfl ?_
    refine zs_iload_n (pc := 19) dL_putNumber_19 rfl ?_
    refine zcS1_1 (pc := 20) (d2 := d - 1) (s_L_digitOf hl (zsg_pow hm)) dL_putNumber_20 kL_30 mdL_digitOf msL_digitOf rfl (Nat.le_of_ble_eq_true rfl) (by omega) (by omega) (by omega) ?_
    refine zn_cast (pc := 23) dL_putNumber_23 (by first | exact t1 | exact t2 | exact t3) (by omega) (by first | decide | assumption) (by omega) ?_
    refine zs_iload_n (pc := 24) dL_putNumber_24 rfl ?_
    refine zs_bipush (pc := 25) dL_putNumber_25 (zi_b 10 (by decide)) ?_
    refine zs_idiv (pc := 27) dL_putNumber_27 (by decide) ?_
    rw [show (nI 10 : Int32) = 10 from rfl, zsg_div (zsg_pow hm), e1]
    refine zs_istore_n (pc := 28) (ls2 := [_, _, _, _, _]) dL_putNumber_28 (Nat.le_of_ble_eq_true rfl) rfl ?_
    refine zn_iinc (pc := 29) (ls2 := [_, _, _, _, _]) dL_putNumber_29 rfl (Nat.le_of_ble_eq_true rfl) rfl ?_
    exact hz
  have low : ∀ (w : Nat → Nat) j, (∀ i, i < j → w i = 48 + m / 10 ^ i % 10) → ∀ i, i < j + 1 → zup w j (48 + m / 10 ^ j % 10) i = 48 + m / 10 ^ i % 10 := by
    intro w j hw i hi
    by_cases e : i = j
    · subst e; exact zup_s
    · rw [zup_n e]; exact hw i (by omega)
  intro i
  induction i with
  | zero =>
    intro j hj h1 u w x4 t1 t2 t3 t4 hw hfr
    have e0 := (zD_st hm.1 (j := j) (by omega)).mpr (by omega)
    refine step j (by omega) h1 u w x4 t1 t2 t3 t4 hw hfr ?_
    refine zs_iload_n (pc := 32) dL_putNumber_32 rfl ?_
    refine zs_if_eq (pc := 33) 42 dL_putNumber_33 rfl (fun _ => ?_) (fun h9 => absurd h9 (fun q => q ((zsg_0 (zsg_pow hm)).mpr e0)))
    have ej : j + 1 = zD m := by omega
    have hlw := low w j hw
    rw [ej] at hlw
    rw [ej]
    exact K _ _ _ x4 ⟨u, _, by rw [zu_n (by omega)]; exact t1, by rw [zu_n (by omega)]; exact t2, zu_s, t4⟩ zu_s hlw (hfr.tr (zfr.u (by omega) (by omega)))
  | succ i ih =>
    intro j hj h1 u w x4 t1 t2 t3 t4 hw hfr
    have e0 : ¬ m / 10 ^ (j + 1) = 0 := fun q => by have := (zD_st hm.1 (j := j) (by omega)).mp q; omega
    refine step j (by omega) h1 u w x4 t1 t2 t3 t4 hw hfr ?_
    refine zs_iload_n (pc := 32) dL_putNumber_32 rfl ?_
    refine zs_if_eq (pc := 33) 42 dL_putNumber_33 rfl (fun h9 => absurd h9 (fun q => e0 ((zsg_0 (zsg_pow hm)).mp q))) (fun _ => ?_)
    refine zs_iload_n (pc := 36) dL_putNumber_36 rfl ?_
    refine zs_bipush (pc := 37) dL_putNumber_37 (zi_b 10 (by decide)) ?_
    refine zn_icmp_lt (pc := 39) 14 dL_putNumber_39 rfl (by omega) (by omega) (fun _ => ?_) (fun h9 => absurd h9 (by omega))
    exact ih (j + 1) (by omega) _ u _ x4 (by rw [zu_n (by omega)]; exact t1) (by rw [zu_n (by omega)]; exact t2) zu_s t4 (low w j hw) (hfr.tr (zfr.u (by omega) (by omega)))
theorem lpb_L_putNumber {Γ : zG} {l : Launch} (hl : l.stackTraces = false) {d : Nat} (hd : 1 ≤ d) {h : zH} {n : Nat} {a m : Nat} {w : Nat → Nat} {x x2 x3 : Int32} {L9 : List Nat} (hw : ∀ i, i < zD m → w i = 48 + m / 10 ^ i % 10) (hL9 : L9.length ≤ 480) (d2 : zD m ≤ 7) : ∀ i, i ≤ zD m → ∀ (h1 : zH) (L : List Nat), LH h1 a L → h1 (a + 2) = some (zAr 1 10 w) → L ++ ydl m i = L9 → zfr a 3 h h1 → Z Γ l mL_putNumber d 0 0 (zFin Γ (zLq a 3 h n L9) 0 0) 47 [some (.ref a), some (.int x), some (.int x2), some (.int x3), some (.int (nI i - nI 1))] [] h1 n 0 0 := by
  intro i
  induction i with
  | zero =>
    intro hi h1 L hT t3 hL hfr
    have e : L = L9 := by rw [← hL]; exact (List.append_nil L).symm
    subst e
    refine zs_iload (pc := 47) dL_putNumber_47 rfl ?_
    refine zs_if_lt (pc := 49) 69 dL_putNumber_49 rfl (fun _ => ?_) (fun h9 => absurd h9 (by decide))
    exact zs_vret (pc := 69) dL_putNumber_69 rfl (by omega) (by omega) (⟨rfl, rfl, hfr, hT⟩)
  | succ i ih =>
    intro hi h1 L hT t3 hL hfr
    have hlen : L.length + (i + 1) = L9.length := by rw [← hL, List.length_append, ydl_len]
    have hc := hw i (by omega)
    have hcb : w i < 65536 := by omega
    rw [nI_prd]
    refine zs_iload (pc := 47) dL_putNumber_47 rfl ?_
    refine zs_if_lt (pc := 49) 69 dL_putNumber_49 rfl (fun h9 => absurd h9 (nI_pos (by omega))) (fun _ => ?_)
    refine zs_aload_n (pc := 52) dL_putNumber_52 rfl ?_
    refine zs_aload_n (pc := 53) dL_putNumber_53 rfl ?_
    refine zs_get (pc := 54) dL_putNumber_54 fL_15 (by exact hT.o) (by rfl) ?_
    refine zs_iload (pc := 57) dL_putNumber_57 rfl ?_
    refine zn_cald (pc := 59) dL_putNumber_59 (by exact t3) (by omega) (by first | decide | assumption) ?_
    refine zcVQ_1 (pc := 60) (d2 := d - 1) (s_L_put hl hT (by omega) hcb) dL_putNumber_60 kL_22 mdL_put miL_put mvL_put rfl (by first | exact t1 | exact hT.o) rfl (Nat.le_of_ble_eq_true rfl) (by omega) (by omega) (by omega) (fun v h1 n1 hq => ?_) (fun E h1 n1 hq => absurd hq.1 (by intro q; cases q))
    obtain ⟨hv9, rfl, hf9, hT⟩ := hq
    obtain rfl := Sum.inl.inj hv9
    have hfr := hfr.tr (hf9.sub (r2 := a) (m2 := 3) (by omega) (by omega))
    refine zs_iinc (pc := 63) (ls2 := [_, _, _, _, _]) dL_putNumber_63 rfl rfl (Nat.le_of_ble_eq_true rfl) rfl ?_
    refine zs_goto (pc := 66) 47 dL_putNumber_66 rfl ?_
    rw [nI_m1]
    refine ih (by omega) _ _ hT (by rw [hf9 _ (by omega)]; exact t3) ?_ hfr
    rw [← hL, List.append_assoc, hc]
    rfl
theorem s_L_putNumber {Γ : zG} {l : Launch} (hl : l.stackTraces = false) {d : Nat} (hd : 1 ≤ d) {h : zH} {n : Nat} {a m : Nat} {b : Bool} {L : List Nat} (hT : LH h a L) (hm : zsb b m) (hb : b = true → 1 ≤ m) (hL : L.length + 8 ≤ 480) : zC Γ l d mL_putNumber [.ref a, .int (zsg b m)] h n 0 0 (zLq a 3 h n (L ++ znum b m)) := by
  obtain ⟨d1, d2, -, -⟩ := zD_ok hm.1
  have hfr : zfr a 3 h h := zfr.rf
  have main : ∀ (h1 : zH) (L1 : List Nat), LH h1 a L1 → zfr a 3 h h1 → L1.length + 7 ≤ 480 → L1 ++ ydl m (zD m) = L ++ znum b m → ∀ x2 x3 x4, Z Γ l mL_putNumber d 0 0 (zFin Γ (zLq a 3 h n (L ++ znum b m)) 0 0) 10 [some (.ref a), some (.int (zsg b m)), x2, x3, x4] [] h1 n 0 0 := by
    intro h1 L1 hT1 hfr hl1 he x2 x3 x4
    obtain ⟨u, w, t1, t2, t3, t4⟩ := hT1
    have hlen : (L ++ znum b m).length ≤ 480 := by
      rw [← he, List.length_append, ydl_len]
      omega
    have hz := lpa_L_putNumber (Γ := Γ) (h := h) (n := n) (L := L1) (x := zsg b m) (FN := zFin Γ (zLq a 3 h n (L ++ znum b m)) 0 0) hl hd hm (fun h2 w2 x2 x4 g1 g2 g3 g4 => by
      refine zs_iload_n (pc := 42) dL_putNumber_42 rfl ?_
      refine zs_iconst (pc := 43) dL_putNumber_43 zi_1 ?_
      refine zs_isub (pc := 44) dL_putNumber_44 ?_
      refine zs_istore (pc := 45) (ls2 := [_, _, _, _, _]) dL_putNumber_45 (Nat.le_of_ble_eq_true rfl) rfl ?_
      exact lpb_L_putNumber hl hd g3 hlen d2 (zD m) (Nat.le_refl _) h2 L1 g1 g2 he g4) (zD m - 1) 0 (by omega) h1 u w x4 t1 t2 t3 t4 (fun i hi => absurd hi (by omega)) hfr
    rw [Nat.pow_zero, Nat.div_one] at hz
    refine zs_iload_n (pc := 10) dL_putNumber_10 rfl ?_
    refine zs_istore_n (pc := 11) (ls2 := [_, _, _, _, _]) dL_putNumber_11 (Nat.le_of_ble_eq_true rfl) rfl ?_
    refine zs_iconst (pc := 12) dL_putNumber_12 zi_0 ?_
    refine zs_istore_n (pc := 13) (ls2 := [_, _, _, _, _]) dL_putNumber_13 (Nat.le_of_ble_eq_true rfl) rfl ?_
    exact hz
  refine zC_of (ls := [some (.ref a), some (.int (zsg b m)), none, none, none]) hl (by decide +kernel) rfl (Nat.le_of_ble_eq_true rfl) rfl ?_
  refine zs_iload_n (pc := 0) dL_putNumber_0 rfl ?_
  cases b with
  | true =>
    have hm2 := hm.2 rfl
    have hneg : ¬ 0 ≤ zsg true m := fun q => by
      have := (zsg_t m hm2).2.2.2.mp q
      have := hb rfl
      omega
    refine zs_if_ge (pc := 1) 10 dL_putNumber_1 rfl (fun h9 => absurd h9 (hneg)) (fun _ => ?_)
    refine zs_aload_n (pc := 4) dL_putNumber_4 rfl ?_
    refine zs_bipush (pc := 5) dL_putNumber_5 (zi_b 45 (by decide)) ?_
    refine zcVQ_1 (pc := 7) (d2 := d - 1) (s_L_put hl hT (by omega) (by decide)) dL_putNumber_7 kL_22 mdL_put miL_put mvL_put rfl (by first | exact t1 | exact hT.o) rfl (Nat.le_of_ble_eq_true rfl) (by omega) (by omega) (by omega) (fun v h1 n1 hq => ?_) (fun E h1 n1 hq => absurd hq.1 (by intro q; cases q))
    obtain ⟨hv9, rfl, hf9, hT⟩ := hq
    obtain rfl := Sum.inl.inj hv9
    have hfr := hfr.tr (hf9.sub (r2 := a) (m2 := 3) (by omega) (by omega))
    exact main _ _ hT hfr (by rw [List.length_append]; show L.length + 1 + 7 ≤ 480; omega) (by rw [List.append_assoc]; rfl) _ _ _
  | false =>
    have hpos : 0 ≤ zsg false m := Int32.not_lt.mp (nI_pos (by have := hm.1; omega))
    refine zs_if_ge (pc := 1) 10 dL_putNumber_1 rfl (fun _ => ?_) (fun h9 => absurd h9 (fun q => q hpos))
    exact main _ _ hT hfr (by omega) rfl _ _ _
theorem s_L_putField {Γ : zG} {l : Launch} (hl : l.stackTraces = false) {d : Nat} (hd : 2 ≤ d) {h : zH} {n : Nat} {a m c : Nat} {L : List Nat} (hT : LH h a L) (hm : m < 10 ^ 7) (hc : c < 65536) (hL : L.length + 9 ≤ 480) : zC Γ l d mL_putField [.ref a, .int (nI c), .int (nI m)] h n 0 0 (zLq a 3 h n (L ++ [c] ++ ydl m (zD m))) := by
  have hfr : zfr a 3 h h := zfr.rf
  refine zC_of (ls := [some (.ref a), some (.int (nI c)), some (.int (nI m))]) hl (by decide +kernel) rfl (Nat.le_of_ble_eq_true rfl) rfl ?_
  refine zs_aload_n (pc := 0) dL_putField_0 rfl ?_
  refine zs_iload_n (pc := 1) dL_putField_1 rfl ?_
  refine zcVQ_1 (pc := 2) (d2 := d - 1) (s_L_put hl hT (by omega) hc) dL_putField_2 kL_22 mdL_put miL_put mvL_put rfl (by exact hT.o) rfl (Nat.le_of_ble_eq_true rfl) (by omega) (by omega) (by omega) (fun v h1 n1 hq => ?_) (fun E h1 n1 hq => absurd hq.1 (by intro q; cases q))
  obtain ⟨hv9, rfl, hf9, hT⟩ := hq
  obtain rfl := Sum.inl.inj hv9
  have hfr := hfr.tr (hf9.sub (r2 := a) (m2 := 3) (by omega) (by omega))
  refine zs_aload_n (pc := 5) dL_putField_5 rfl ?_
  refine zs_iload_n (pc := 6) dL_putField_6 rfl ?_
  refine zcVQ_1 (pc := 7) (d2 := d - 1) (s_L_putNumber (b := false) hl (by omega) hT ⟨hm, fun q => by cases q⟩ (fun q => by cases q) (by rw [List.length_append]; show L.length + 1 + 8 ≤ 480; omega)) dL_putField_7 kL_26 mdL_putNumber miL_putNumber mvL_putNumber rfl (by exact hT.o) rfl (Nat.le_of_ble_eq_true rfl) (by omega) (by omega) (by omega) (fun v h1 n1 hq => ?_) (fun E h1 n1 hq => absurd hq.1 (by intro q; cases q))
  obtain ⟨hv9, rfl, hf9, hT⟩ := hq
  obtain rfl := Sum.inl.inj hv9
  have hfr := hfr.tr (hf9.sub (r2 := a) (m2 := 3) (by omega) (by omega))
  exact zs_vret (pc := 10) dL_putField_10 rfl (by omega) (by omega) (⟨rfl, rfl, hfr, hT⟩)
/-- a code's three digits -/
def zcd (c : Nat) : List Nat := [48 + c / 100, 48 + c / 10 % 10, 48 + c % 10]
theorem s_L_putCode {Γ : zG} {l : Launch} (hl : l.stackTraces = false) {d : Nat} (hd : 1 ≤ d) {h : zH} {n : Nat} {a c : Nat} {L : List Nat} (hT : LH h a L) (hc : c < 1000) (hL : L.length + 3 ≤ 480) : zC Γ l d mL_putCode [.ref a, .int (nI c)] h n 0 0 (zLq a 3 h n (L ++ zcd c)) := by
  have hfr : zfr a 3 h h := zfr.rf
  have hb : ∀ k, k ≤ 2 → zsb false (c / 10 ^ k) := fun k hk => ⟨Nat.lt_of_le_of_lt (Nat.div_le_self _ _) (by omega), fun q => by cases q⟩
  refine zC_of (ls := [some (.ref a), some (.int (nI c)), none]) hl (by decide +kernel) rfl (Nat.le_of_ble_eq_true rfl) rfl ?_
  refine zs_iconst (pc := 0) dL_putCode_0 zi_2 ?_
  refine zs_istore_n (pc := 1) (ls2 := [_, _, _]) dL_putCode_1 (Nat.le_of_ble_eq_true rfl) rfl ?_
  refine zs_iload_n (pc := 2) dL_putCode_2 rfl ?_
  refine zs_if_lt (pc := 3) 24 dL_putCode_3 rfl (fun h9 => absurd h9 (nI_pos (by omega))) (fun _ => ?_)
  refine zs_aload_n (pc := 6) dL_putCode_6 rfl ?_
  refine zs_iload_n (pc := 7) dL_putCode_7 rfl ?_
  refine zs_iload_n (pc := 8) dL_putCode_8 rfl ?_
  refine zcSN1_2 (pc := 9) (d2 := d - 1) (s_X_withoutEnd hl (by omega) (by omega)) dL_putCode_9 knL_34 mdX_withoutEnd msX_withoutEnd rfl (Nat.le_of_ble_eq_true rfl) (by omega) (by omega) (by omega) ?_
  refine zcS1_1 (pc := 12) (d2 := d - 1) (s_L_digitOf (b := false) hl (hb 2 (by decide))) dL_putCode_12 kL_30 mdL_digitOf msL_digitOf rfl (Nat.le_of_ble_eq_true rfl) (by omega) (by omega) (by omega) ?_
  refine zcVQ_1 (pc := 15) (d2 := d - 1) (s_L_put hl hT (by omega) (by omega)) dL_putCode_15 kL_22 mdL_put miL_put mvL_put rfl (by exact hT.o) rfl (Nat.le_of_ble_eq_true rfl) (by omega) (by omega) (by omega) (fun v h1 n1 hq => ?_) (fun E h1 n1 hq => absurd hq.1 (by intro q; cases q))
  obtain ⟨hv9, rfl, hf9, hT⟩ := hq
  obtain rfl := Sum.inl.inj hv9
  have hfr := hfr.tr (hf9.sub (r2 := a) (m2 := 3) (by omega) (by omega))
  refine zn_idec (pc := 18) (ls2 := [_, _, _]) dL_putCode_18 rfl (Nat.le_of_ble_eq_true rfl) rfl ?_
  refine zs_goto (pc := 21) 2 dL_putCode_21 rfl ?_
  refine zs_iload_n (pc := 2) dL_putCode_2 rfl ?_
  refine zs_if_lt (pc := 3) 24 dL_putCode_3 rfl (fun h9 => absurd h9 (nI_pos (by omega))) (fun _ => ?_)
  refine zs_aload_n (pc := 6) dL_putCode_6 rfl ?_
  refine zs_iload_n (pc := 7) dL_putCode_7 rfl ?_
  refine zs_iload_n (pc := 8) dL_putCode_8 rfl ?_
  refine zcSN1_2 (pc := 9) (d2 := d - 1) (s_X_withoutEnd hl (by omega) (by omega)) dL_putCode_9 knL_34 mdX_withoutEnd msX_withoutEnd rfl (Nat.le_of_ble_eq_true rfl) (by omega) (by omega) (by omega) ?_
  refine zcS1_1 (pc := 12) (d2 := d - 1) (s_L_digitOf (b := false) hl (hb 1 (by decide))) dL_putCode_12 kL_30 mdL_digitOf msL_digitOf rfl (Nat.le_of_ble_eq_true rfl) (by omega) (by omega) (by omega) ?_
  refine zcVQ_1 (pc := 15) (d2 := d - 1) (s_L_put hl hT (by rw [List.length_append]; show L.length + 1 < 480; omega) (by omega)) dL_putCode_15 kL_22 mdL_put miL_put mvL_put rfl (by exact hT.o) rfl (Nat.le_of_ble_eq_true rfl) (by omega) (by omega) (by omega) (fun v h1 n1 hq => ?_) (fun E h1 n1 hq => absurd hq.1 (by intro q; cases q))
  obtain ⟨hv9, rfl, hf9, hT⟩ := hq
  obtain rfl := Sum.inl.inj hv9
  have hfr := hfr.tr (hf9.sub (r2 := a) (m2 := 3) (by omega) (by omega))
  refine zn_idec (pc := 18) (ls2 := [_, _, _]) dL_putCode_18 rfl (Nat.le_of_ble_eq_true rfl) rfl ?_
  refine zs_goto (pc := 21) 2 dL_putCode_21 rfl ?_
  refine zs_iload_n (pc := 2) dL_putCode_2 rfl ?_
  refine zs_if_lt (pc := 3) 24 dL_putCode_3 rfl (fun h9 => absurd h9 (nI_pos (by omega))) (fun _ => ?_)
  refine zs_aload_n (pc := 6) dL_putCode_6 rfl ?_
  refine zs_iload_n (pc := 7) dL_putCode_7 rfl ?_
  refine zs_iload_n (pc := 8) dL_putCode_8 rfl ?_
  refine zcSN1_2 (pc := 9) (d2 := d - 1) (s_X_withoutEnd hl (by omega) (by omega)) dL_putCode_9 knL_34 mdX_withoutEnd msX_withoutEnd rfl (Nat.le_of_ble_eq_true rfl) (by omega) (by omega) (by omega) ?_
  refine zcS1_1 (pc := 12) (d2 := d - 1) (s_L_digitOf (b := false) hl (hb 0 (by decide))) dL_putCode_12 kL_30 mdL_digitOf msL_digitOf rfl (Nat.le_of_ble_eq_true rfl) (by omega) (by omega) (by omega) ?_
  refine zcVQ_1 (pc := 15) (d2 := d - 1) (s_L_put hl hT (by rw [List.length_append, List.length_append]; show L.length + 1 + 1 < 480; omega) (by omega)) dL_putCode_15 kL_22 mdL_put miL_put mvL_put rfl (by exact hT.o) rfl (Nat.le_of_ble_eq_true rfl) (by omega) (by omega) (by omega) (fun v h1 n1 hq => ?_) (fun E h1 n1 hq => absurd hq.1 (by intro q; cases q))
  obtain ⟨hv9, rfl, hf9, hT⟩ := hq
  obtain rfl := Sum.inl.inj hv9
  have hfr := hfr.tr (hf9.sub (r2 := a) (m2 := 3) (by omega) (by omega))
  refine zs_iinc (pc := 18) (ls2 := [_, _, _]) dL_putCode_18 rfl rfl (Nat.le_of_ble_eq_true rfl) rfl ?_
  refine zs_goto (pc := 21) 2 dL_putCode_21 rfl ?_
  refine zs_iload_n (pc := 2) dL_putCode_2 rfl ?_
  refine zs_if_lt (pc := 3) 24 dL_putCode_3 rfl (fun _ => ?_) (fun h9 => absurd h9 (by decide))
  have e : L ++ [48 + c / 10 ^ 2 % 10] ++ [48 + c / 10 ^ 1 % 10] ++ [48 + c / 10 ^ 0 % 10] = L ++ zcd c := by
    unfold zcd
    rw [List.append_assoc, List.append_assoc, Nat.pow_zero, Nat.div_one, show c / 10 ^ 2 % 10 = c / 100 by omega]
    rfl
  rw [e] at hT
  exact zs_vret (pc := 24) dL_putCode_24 rfl (by omega) (by omega) (⟨rfl, rfl, hfr, hT⟩)

