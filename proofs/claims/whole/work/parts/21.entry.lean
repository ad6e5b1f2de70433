/-! entries: an object of seven fields and its array of codes; q: what the fields and the codes hold -/
def zcnt (p : Nat → Bool) : Nat → Nat
  | 0 => 0
  | n + 1 => zcnt p n + (if p n then 1 else 0)
def zany (p : Nat → Bool) : Nat → Bool
  | 0 => false
  | n + 1 => zany p n || p n
theorem zcnt_le (p : Nat → Bool) (n : Nat) : zcnt p n ≤ n := by
  induction n with
  | zero => exact Nat.le_refl _
  | succ n ih => unfold zcnt; split <;> omega
theorem zcnt_le2 (p : Nat → Bool) {m n : Nat} (h : m ≤ n) : zcnt p m ≤ zcnt p n := by
  induction n with
  | zero => rw [Nat.le_zero.mp h]; exact Nat.le_refl _
  | succ n ih =>
    rcases Nat.lt_or_ge m (n + 1) with h1 | h1
    · have := ih (by omega)
      show _ ≤ zcnt p n + _
      omega
    · rw [show m = n + 1 by omega]; exact Nat.le_refl _
theorem zcnt_t {p : Nat → Bool} {n : Nat} (h : p n = true) : zcnt p (n + 1) = zcnt p n + 1 := by show _ + _ = _; rw [if_pos h]
theorem zcnt_f {p : Nat → Bool} {n : Nat} (h : p n = false) : zcnt p (n + 1) = zcnt p n := by show _ + _ = _; rw [if_neg (by rw [h]; decide)]; rfl
theorem zcnt_eq {p p2 : Nat → Bool} {n : Nat} (h : ∀ i, i < n → p i = p2 i) : zcnt p n = zcnt p2 n := by
  induction n with
  | zero => rfl
  | succ n ih => show zcnt p n + _ = zcnt p2 n + _; rw [ih (fun i hi => h i (by omega)), h n (by omega)]
theorem zany_iff {p : Nat → Bool} {n : Nat} : zany p n = true ↔ ∃ i, i < n ∧ p i = true := by
  induction n with
  | zero => exact ⟨fun h => (by cases h), fun ⟨i, h, _⟩ => (by omega)⟩
  | succ n ih =>
    show (zany p n || p n) = true ↔ _
    rw [Bool.or_eq_true, ih]
    constructor
    · rintro (⟨i, h1, h2⟩ | h)
      · exact ⟨i, by omega, h2⟩
      · exact ⟨n, by omega, h⟩
    · rintro ⟨i, h1, h2⟩
      rcases Nat.lt_or_ge i n with h3 | h3
      · exact Or.inl ⟨i, h3, h2⟩
      · rw [show i = n by omega] at h2; exact Or.inr h2
theorem zany_no {p : Nat → Bool} {n : Nat} : zany p n = false ↔ ∀ i, i < n → p i = false := by
  constructor
  · intro h i hi
    cases hp : p i with
    | false => rfl
    | true => rw [zany_iff.mpr ⟨i, hi, hp⟩] at h; cases h
  · intro h
    cases hz : zany p n with
    | false => rfl
    | true => obtain ⟨i, h1, h2⟩ := zany_iff.mp hz; rw [h i h1] at h2; cases h2
theorem zany_eq {p p2 : Nat → Bool} {n : Nat} (h : ∀ i, i < n → p i = p2 i) : zany p n = zany p2 n := by
  induction n with
  | zero => rfl
  | succ n ih => show (zany p n || _) = (zany p2 n || _); rw [ih (fun i hi => h i (by omega)), h n (by omega)]
theorem zcnt_pos {p : Nat → Bool} {n : Nat} : 0 < zcnt p n ↔ zany p n = true := by
  induction n with
  | zero => exact ⟨fun h => (by cases h), fun h => (by cases h)⟩
  | succ n ih =>
    show 0 < zcnt p n + _ ↔ (zany p n || p n) = true
    rw [Bool.or_eq_true, ← ih]
    split <;> rename_i hp
    · exact ⟨fun _ => Or.inr hp, fun _ => (by omega)⟩
    · exact ⟨fun h => Or.inl (by omega), fun h => by rcases h with h | h; omega; exact absurd h hp⟩
abbrev zEo (q : Nat → Nat) (c : Nat) : zE := .inr (1, [.int (nI (q 0)), .int (nI (q 1)), .int (nI (q 2)), .int (nI (q 3)), .int (nI (q 4)), .int (nI (q 5)), .ref c])
abbrev zEc (q : Nat → Nat) : zE := zAr 0 6 (fun i => q (6 + i))
/-- the bounds of an entry's numbers -/
def zEb (q : Nat → Nat) : Prop := q 0 < 2 ^ 20 ∧ q 1 ≤ 9 ∧ q 2 ≤ 300 ∧ q 3 ≤ 2 ^ 20 ∧ q 4 ≤ 5 ∧ q 5 ≤ 6 ∧ ∀ i, i < q 5 → q (6 + i) < 1000
def zlife (q : Nat → Nat) : Nat := if 10 * q 1 + 5 * q 3 < 150 then 10 * q 1 + 5 * q 3 else 150
def zmany (q : Nat → Nat) (dn v : Nat) : Nat := zcnt (fun i => zhas (q (6 + i)) dn v) (q 5)
def zin (q : Nat → Nat) (c : Nat) : Bool := zany (fun i => q (6 + i) == c) (q 5)
def zshare (q q2 : Nat → Nat) : Nat := zcnt (fun i => zin q2 (q (6 + i))) (q 5)
theorem zlife_le (q : Nat → Nat) : zlife q ≤ 150 := by unfold zlife; split <;> omega
theorem s_E_lifetime {Γ : zG} {l : Launch} (hl : l.stackTraces = false) {d : Nat} {h : zH} {n : Nat} {e c : Nat} {q : Nat → Nat} (hb : zEb q) (he : h e = some (zEo q c)) : zC Γ l d mE_lifetime [.ref e] h n 0 0 (zR (some (.int (nI (zlife q)))) h n) := by
  obtain ⟨b0, b1, b2, b3, b4, b5, b6⟩ := hb
  refine zC_of (ls := [some (.ref e), none]) hl (by decide +kernel) rfl (Nat.le_of_ble_eq_true rfl) rfl ?_
  refine zs_bipush (pc := 0) dE_lifetime_0 (zi_b 10 (by decide)) ?_
  refine zs_aload_n (pc := 2) dE_lifetime_2 rfl ?_
  refine zs_get (pc := 3) dE_lifetime_3 fE_19 (by first | exact he | exact hc) (by rfl) ?_
  refine zn_imul (pc := 6) dE_lifetime_6 ?_
  refine zs_iconst (pc := 7) dE_lifetime_7 zi_5 ?_
  refine zs_aload_n (pc := 8) dE_lifetime_8 rfl ?_
  refine zs_get (pc := 9) dE_lifetime_9 fE_25 (by first | exact he | exact hc) (by rfl) ?_
  refine zn_imul (pc := 12) dE_lifetime_12 ?_
  refine zn_iadd (pc := 13) dE_lifetime_13 ?_
  refine zs_istore_n (pc := 14) (ls2 := [_, _]) dE_lifetime_14 (Nat.le_of_ble_eq_true rfl) rfl ?_
  refine zs_iload_n (pc := 15) dE_lifetime_15 rfl ?_
  refine zs_sipush (pc := 16) dE_lifetime_16 (zi_s 150 (by decide)) ?_
  refine zn_icmp_ge (pc := 19) 26 dE_lifetime_19 rfl (by omega) (by omega) (fun h1 => ?_) (fun h1 => ?_)
  · refine zs_sipush (pc := 26) dE_lifetime_26 (zi_s 150 (by decide)) ?_
    rw [show zlife q = 150 by unfold zlife; rw [if_neg (by omega)]]
    exact zs_iret (pc := 29) dE_lifetime_29 rfl rfl (by omega) (by omega) (⟨rfl, rfl, rfl⟩)
  · refine zs_iload_n (pc := 22) dE_lifetime_22 rfl ?_
    refine zs_goto (pc := 23) 29 dE_lifetime_23 rfl ?_
    rw [show zlife q = 10 * q 1 + 5 * q 3 by unfold zlife; rw [if_pos (by omega)]]
    exact zs_iret (pc := 29) dE_lifetime_29 rfl rfl (by omega) (by omega) (⟨rfl, rfl, rfl⟩)
theorem s_E_hasFaded {Γ : zG} {l : Launch} (hl : l.stackTraces = false) {d : Nat} (hd : 1 ≤ d) {h : zH} {n : Nat} {e c : Nat} {q : Nat → Nat} (hb : zEb q) (he : h e = some (zEo q c)) : zC Γ l d mE_hasFaded [.ref e] h n 0 0 (zR (some (.int (nI (if zlife q < q 2 then 1 else 0)))) h n) := by
  have hb9 := hb
  obtain ⟨b0, b1, b2, b3, b4, b5, b6⟩ := hb
  have h2 := zlife_le q
  refine zC_of (ls := [some (.ref e)]) hl (by decide +kernel) rfl (Nat.le_of_ble_eq_true rfl) rfl ?_
  refine zs_aload_n (pc := 0) dE_hasFaded_0 rfl ?_
  refine zs_get (pc := 1) dE_hasFaded_1 fE_22 (by first | exact he | exact hc) (by rfl) ?_
  refine zs_aload_n (pc := 4) dE_hasFaded_4 rfl ?_
  refine zcV1_0 (pc := 5) (d2 := d - 1) (s_E_lifetime hl hb9 he) dE_hasFaded_5 kE_40 mdE_lifetime miE_lifetime mvE_lifetime rfl (by first | exact he | exact hc) rfl (Nat.le_of_ble_eq_true rfl) (by omega) (by omega) (by omega) ?_
  refine zn_icmp_le (pc := 8) 15 dE_hasFaded_8 rfl (by omega) (by omega) (fun h1 => ?_) (fun h1 => ?_)
  · refine zs_iconst (pc := 15) dE_hasFaded_15 zi_0 ?_
    rw [if_neg (by omega)]
    exact zs_iret (pc := 16) dE_hasFaded_16 rfl rfl (by omega) (by omega) (⟨rfl, rfl, rfl⟩)
  · refine zs_iconst (pc := 11) dE_hasFaded_11 zi_1 ?_
    refine zs_goto (pc := 12) 16 dE_hasFaded_12 rfl ?_
    rw [if_pos (by omega)]
    exact zs_iret (pc := 16) dE_hasFaded_16 rfl rfl (by omega) (by omega) (⟨rfl, rfl, rfl⟩)
theorem s_E_daysLeft {Γ : zG} {l : Launch} (hl : l.stackTraces = false) {d : Nat} (hd : 1 ≤ d) {h : zH} {n : Nat} {e c : Nat} {q : Nat → Nat} (hb : zEb q) (ha : q 2 ≤ zlife q) (he : h e = some (zEo q c)) : zC Γ l d mE_daysLeft [.ref e] h n 0 0 (zR (some (.int (nI (zlife q - q 2 + 1)))) h n) := by
  refine zC_of (ls := [some (.ref e)]) hl (by decide +kernel) rfl (Nat.le_of_ble_eq_true rfl) rfl ?_
  refine zs_aload_n (pc := 0) dE_daysLeft_0 rfl ?_
  refine zcV1_0 (pc := 1) (d2 := d - 1) (s_E_lifetime hl hb he) dE_daysLeft_1 kE_40 mdE_lifetime miE_lifetime mvE_lifetime rfl (by first | exact he | exact hc) rfl (Nat.le_of_ble_eq_true rfl) (by omega) (by omega) (by omega) ?_
  refine zs_aload_n (pc := 4) dE_daysLeft_4 rfl ?_
  refine zs_get (pc := 5) dE_daysLeft_5 fE_22 (by first | exact he | exact hc) (by rfl) ?_
  refine zn_isub (pc := 8) dE_daysLeft_8 (by omega) ?_
  refine zs_iconst (pc := 9) dE_daysLeft_9 zi_1 ?_
  refine zn_iadd (pc := 10) dE_daysLeft_10 ?_
  exact zs_iret (pc := 11) dE_daysLeft_11 rfl rfl (by omega) (by omega) (⟨rfl, rfl, rfl⟩)
theorem lp_E_countWith {Γ : zG} {l : Launch} (hl : l.stackTraces = false) {d : Nat} (hd : 2 ≤ d) {h : zH} {n : Nat} {e c dn v : Nat} {q : Nat → Nat} (hb : zEb q) (he : h e = some (zEo q c)) (hc : h c = some (zEc q)) (h1 : dn ≤ 3) (hv : v < 2 ^ 31) : ∀ i j, i + j = q 5 → Z Γ l mE_countWith d 0 0 (zFin Γ (zR (some (.int (nI (zmany q dn v)))) h n) 0 0) 5 [some (.ref e), some (.int (nI dn)), some (.int (nI v)), some (.int (nI (zcnt (fun i => zhas (q (6 + i)) dn v) j))), some (.int (nI j))] [] h n 0 0 := by
  obtain ⟨b0, b1, b2, b3, b4, b5, b6⟩ := hb
  intro i
  induction i with
  | zero =>
    intro j hj
    refine zs_iload (pc := 5) dE_countWith_5 rfl ?_
    refine zs_aload_n (pc := 7) dE_countWith_7 rfl ?_
    refine zs_get (pc := 8) dE_countWith_8 fE_31 (by first | exact he | exact hc) (by rfl) ?_
    refine zn_icmp_ge (pc := 11) 38 dE_countWith_11 rfl (by omega) (by omega) (fun _ => ?_) (fun h9 => absurd h9 (by omega))
    refine zs_iload_n (pc := 38) dE_countWith_38 rfl ?_
    have e9 : j = q 5 := by omega
    subst e9
    exact zs_iret (pc := 39) dE_countWith_39 rfl rfl (by omega) (by omega) (⟨rfl, rfl, rfl⟩)
  | succ i ih =>
    intro j hj
    have hz := ih (j + 1) (by omega)
    refine zs_iload (pc := 5) dE_countWith_5 rfl ?_
    refine zs_aload_n (pc := 7) dE_countWith_7 rfl ?_
    refine zs_get (pc := 8) dE_countWith_8 fE_31 (by first | exact he | exact hc) (by rfl) ?_
    refine zn_icmp_ge (pc := 11) 38 dE_countWith_11 rfl (by omega) (by omega) (fun h9 => absurd h9 (by omega)) (fun _ => ?_)
    refine zs_aload_n (pc := 14) dE_countWith_14 rfl ?_
    refine zs_get (pc := 15) dE_countWith_15 fE_9 (by first | exact he | exact hc) (by rfl) ?_
    refine zs_iload (pc := 18) dE_countWith_18 rfl ?_
    refine zn_iald (pc := 20) dE_countWith_20 (by first | exact he | exact hc) (by omega) (by decide) ?_
    refine zs_iload_n (pc := 21) dE_countWith_21 rfl ?_
    refine zs_iload_n (pc := 22) dE_countWith_22 rfl ?_
    refine zcSN1_3 (pc := 23) (d2 := d - 1) (s_X_hasPrefix hl (by omega) (b6 j (by omega)) h1 hv) dE_countWith_23 knE_48 mdX_hasPrefix msX_hasPrefix rfl (Nat.le_of_ble_eq_true rfl) (by omega) (by omega) (by omega) ?_
    cases hp : zhas (q (6 + j)) dn v with
    | true =>
      rw [zcnt_t (p := fun i => zhas (q (6 + i)) dn v) (n := j) hp] at hz
      refine zs_if_eq (pc := 26) 32 dE_countWith_26 rfl (fun h9 => absurd h9 (by decide)) (fun _ => ?_)
      refine zn_iinc (pc := 29) (ls2 := [_, _, _, _, _]) dE_countWith_29 rfl (Nat.le_of_ble_eq_true rfl) rfl ?_
      refine zn_iinc (pc := 32) (ls2 := [_, _, _, _, _]) dE_countWith_32 rfl (Nat.le_of_ble_eq_true rfl) rfl ?_
      refine zs_goto (pc := 35) 5 dE_countWith_35 rfl ?_
      exact hz
    | false =>
      rw [zcnt_f (p := fun i => zhas (q (6 + i)) dn v) (n := j) hp] at hz
      refine zs_if_eq (pc := 26) 32 dE_countWith_26 rfl (fun _ => ?_) (fun h9 => absurd h9 (by decide))
      refine zn_iinc (pc := 32) (ls2 := [_, _, _, _, _]) dE_countWith_32 rfl (Nat.le_of_ble_eq_true rfl) rfl ?_
      refine zs_goto (pc := 35) 5 dE_countWith_35 rfl ?_
      exact hz
theorem s_E_countWith {Γ : zG} {l : Launch} (hl : l.stackTraces = false) {d : Nat} (hd : 2 ≤ d) {h : zH} {n : Nat} {e c dn v : Nat} {q : Nat → Nat} (hb : zEb q) (he : h e = some (zEo q c)) (hc : h c = some (zEc q)) (h1 : dn ≤ 3) (hv : v < 2 ^ 31) : zC Γ l d mE_countWith [.ref e, .int (nI dn), .int (nI v)] h n 0 0 (zR (some (.int (nI (zmany q dn v)))) h n) := by
  refine zC_of (ls := [some (.ref e), some (.int (nI dn)), some (.int (nI v)), none, none]) hl (by decide +kernel) rfl (Nat.le_of_ble_eq_true rfl) rfl ?_
  refine zs_iconst (pc := 0) dE_countWith_0 zi_0 ?_
  refine zs_istore_n (pc := 1) (ls2 := [_, _, _, _, _]) dE_countWith_1 (Nat.le_of_ble_eq_true rfl) rfl ?_
  refine zs_iconst (pc := 2) dE_countWith_2 zi_0 ?_
  refine zs_istore (pc := 3) (ls2 := [_, _, _, _, _]) dE_countWith_3 (Nat.le_of_ble_eq_true rfl) rfl ?_
  exact lp_E_countWith hl hd hb he hc h1 hv (q 5) 0 rfl
/-- an entry's score: a number that may lie below 0 -/
def zscore (q : Nat → Nat) (dn v : Nat) : Int32 := nI (10 * q 1 + 5 * zmany q dn v) - nI (q 2)
theorem s_E_score {Γ : zG} {l : Launch} (hl : l.stackTraces = false) {d : Nat} (hd : 3 ≤ d) {h : zH} {n : Nat} {e c dn v : Nat} {q : Nat → Nat} (hb : zEb q) (he : h e = some (zEo q c)) (hc : h c = some (zEc q)) (h1 : dn ≤ 3) (hv : v < 2 ^ 31) : zC Γ l d mE_score [.ref e, .int (nI dn), .int (nI v)] h n 0 0 (zR (some (.int (zscore q dn v))) h n) := by
  refine zC_of (ls := [some (.ref e), some (.int (nI dn)), some (.int (nI v))]) hl (by decide +kernel) rfl (Nat.le_of_ble_eq_true rfl) rfl ?_
  refine zs_bipush (pc := 0) dE_score_0 (zi_b 10 (by decide)) ?_
  refine zs_aload_n (pc := 2) dE_score_2 rfl ?_
  refine zs_get (pc := 3) dE_score_3 fE_19 (by first | exact he | exact hc) (by rfl) ?_
  refine zn_imul (pc := 6) dE_score_6 ?_
  refine zs_iconst (pc := 7) dE_score_7 zi_5 ?_
  refine zs_aload_n (pc := 8) dE_score_8 rfl ?_
  refine zs_iload_n (pc := 9) dE_score_9 rfl ?_
  refine zs_iload_n (pc := 10) dE_score_10 rfl ?_
  refine zcV1_2 (pc := 11) (d2 := d - 1) (s_E_countWith hl (by omega) hb he hc h1 hv) dE_score_11 kE_44 mdE_countWith miE_countWith mvE_countWith rfl (by first | exact he | exact hc) rfl (Nat.le_of_ble_eq_true rfl) (by omega) (by omega) (by omega) ?_
  refine zn_imul (pc := 14) dE_score_14 ?_
  refine zn_iadd (pc := 15) dE_score_15 ?_
  refine zs_aload_n (pc := 16) dE_score_16 rfl ?_
  refine zs_get (pc := 17) dE_score_17 fE_22 (by first | exact he | exact hc) (by rfl) ?_
  refine zs_isub (pc := 20) dE_score_20 ?_
  exact zs_iret (pc := 21) dE_score_21 rfl rfl (by omega) (by omega) (⟨rfl, rfl, rfl⟩)
theorem lp_E_holds {Γ : zG} {l : Launch} (hl : l.stackTraces = false) {d : Nat} {h : zH} {n : Nat} {e c v : Nat} {q : Nat → Nat} (hb : zEb q) (he : h e = some (zEo q c)) (hc : h c = some (zEc q)) (hv : v < 2 ^ 31) : ∀ i j, i + j = q 5 → zany (fun i => q (6 + i) == v) j = false → Z Γ l mE_holds d 0 0 (zFin Γ (zR (some (.int (nI (zb (zin q v))))) h n) 0 0) 2 [some (.ref e), some (.int (nI v)), some (.int (nI j))] [] h n 0 0 := by
  obtain ⟨b0, b1, b2, b3, b4, b5, b6⟩ := hb
  intro i
  induction i with
  | zero =>
    intro j hj hn
    refine zs_iload_n (pc := 2) dE_holds_2 rfl ?_
    refine zs_aload_n (pc := 3) dE_holds_3 rfl ?_
    refine zs_get (pc := 4) dE_holds_4 fE_31 (by first | exact he | exact hc) (by rfl) ?_
    refine zn_icmp_ge (pc := 7) 28 dE_holds_7 rfl (by omega) (by omega) (fun _ => ?_) (fun h9 => absurd h9 (by omega))
    refine zs_iconst (pc := 28) dE_holds_28 zi_0 ?_
    have e9 : j = q 5 := by omega
    subst e9
    rw [show zin q v = false from hn]
    exact zs_iret (pc := 29) dE_holds_29 rfl rfl (by omega) (by omega) (⟨rfl, rfl, rfl⟩)
  | succ i ih =>
    intro j hj hn
    have hz := ih (j + 1) (by omega)
    have b7 := b6 j (by omega)
    refine zs_iload_n (pc := 2) dE_holds_2 rfl ?_
    refine zs_aload_n (pc := 3) dE_holds_3 rfl ?_
    refine zs_get (pc := 4) dE_holds_4 fE_31 (by first | exact he | exact hc) (by rfl) ?_
    refine zn_icmp_ge (pc := 7) 28 dE_holds_7 rfl (by omega) (by omega) (fun h9 => absurd h9 (by omega)) (fun _ => ?_)
    refine zs_aload_n (pc := 10) dE_holds_10 rfl ?_
    refine zs_get (pc := 11) dE_holds_11 fE_9 (by first | exact he | exact hc) (by rfl) ?_
    refine zs_iload_n (pc := 14) dE_holds_14 rfl ?_
    refine zn_iald (pc := 15) dE_holds_15 (by first | exact he | exact hc) (by omega) (by decide) ?_
    refine zs_iload_n (pc := 16) dE_holds_16 rfl ?_
    refine zn_icmp_ne (pc := 17) 22 dE_holds_17 rfl (by omega) (by omega) (fun h9 => ?_) (fun h9 => ?_)
    · refine zn_iinc (pc := 22) (ls2 := [_, _, _]) dE_holds_22 rfl (Nat.le_of_ble_eq_true rfl) rfl ?_
      refine zs_goto (pc := 25) 2 dE_holds_25 rfl ?_
      exact hz (by show (_ || _) = false; rw [hn]; simp [h9])
    · refine zs_iconst (pc := 20) dE_holds_20 zi_1 ?_
      rw [show zin q v = true from zany_iff.mpr ⟨j, by omega, by simp [h9]⟩]
      exact zs_iret (pc := 21) dE_holds_21 rfl rfl (by omega) (by omega) (⟨rfl, rfl, rfl⟩)
theorem s_E_holds {Γ : zG} {l : Launch} (hl : l.stackTraces = false) {d : Nat} {h : zH} {n : Nat} {e c v : Nat} {q : Nat → Nat} (hb : zEb q) (he : h e = some (zEo q c)) (hc : h c = some (zEc q)) (hv : v < 2 ^ 31) : zC Γ l d mE_holds [.ref e, .int (nI v)] h n 0 0 (zR (some (.int (nI (zb (zin q v))))) h n) := by
  refine zC_of (ls := [some (.ref e), some (.int (nI v)), none]) hl (by decide +kernel) rfl (Nat.le_of_ble_eq_true rfl) rfl ?_
  refine zs_iconst (pc := 0) dE_holds_0 zi_0 ?_
  refine zs_istore_n (pc := 1) (ls2 := [_, _, _]) dE_holds_1 (Nat.le_of_ble_eq_true rfl) rfl ?_
  exact lp_E_holds hl hb he hc hv (q 5) 0 rfl rfl
theorem lp_E_countShared {Γ : zG} {l : Launch} (hl : l.stackTraces = false) {d : Nat} (hd : 1 ≤ d) {h : zH} {n : Nat} {e c e2 c2 : Nat} {q q2 : Nat → Nat} (hb : zEb q) (he : h e = some (zEo q c)) (hc : h c = some (zEc q)) (hb2 : zEb q2) (he2 : h e2 = some (zEo q2 c2)) (hc2 : h c2 = some (zEc q2)) : ∀ i j, i + j = q 5 → Z Γ l mE_countShared d 0 0 (zFin Γ (zR (some (.int (nI (zshare q q2)))) h n) 0 0) 4 [some (.ref e), some (.ref e2), some (.int (nI (zcnt (fun i => zin q2 (q (6 + i))) j))), some (.int (nI j))] [] h n 0 0 := by
  obtain ⟨b0, b1, b2, b3, b4, b5, b6⟩ := hb
  intro i
  induction i with
  | zero =>
    intro j hj
    refine zs_iload_n (pc := 4) dE_countShared_4 rfl ?_
    refine zs_aload_n (pc := 5) dE_countShared_5 rfl ?_
    refine zs_get (pc := 6) dE_countShared_6 fE_31 (by first | exact he | exact hc | exact he2) (by rfl) ?_
    refine zn_icmp_ge (pc := 9) 34 dE_countShared_9 rfl (by omega) (by omega) (fun _ => ?_) (fun h9 => absurd h9 (by omega))
    refine zs_iload_n (pc := 34) dE_countShared_34 rfl ?_
    have e9 : j = q 5 := by omega
    subst e9
    exact zs_iret (pc := 35) dE_countShared_35 rfl rfl (by omega) (by omega) (⟨rfl, rfl, rfl⟩)
  | succ i ih =>
    intro j hj
    have hz := ih (j + 1) (by omega)
    have b7 := b6 j (by omega)
    refine zs_iload_n (pc := 4) dE_countShared_4 rfl ?_
    refine zs_aload_n (pc := 5) dE_countShared_5 rfl ?_
    refine zs_get (pc := 6) dE_countShared_6 fE_31 (by first | exact he | exact hc | exact he2) (by rfl) ?_
    refine zn_icmp_ge (pc := 9) 34 dE_countShared_9 rfl (by omega) (by omega) (fun h9 => absurd h9 (by omega)) (fun _ => ?_)
    refine zs_aload_n (pc := 12) dE_countShared_12 rfl ?_
    refine zs_aload_n (pc := 13) dE_countShared_13 rfl ?_
    refine zs_get (pc := 14) dE_countShared_14 fE_9 (by first | exact he | exact hc | exact he2) (by rfl) ?_
    refine zs_iload_n (pc := 17) dE_countShared_17 rfl ?_
    refine zn_iald (pc := 18) dE_countShared_18 (by first | exact he | exact hc | exact he2) (by omega) (by decide) ?_
    refine zcV1_1 (pc := 19) (d2 := d - 1) (s_E_holds hl hb2 he2 hc2 (by omega)) dE_countShared_19 kE_52 mdE_holds miE_holds mvE_holds rfl (by first | exact he | exact hc | exact he2) rfl (Nat.le_of_ble_eq_true rfl) (by omega) (by omega) (by omega) ?_
    cases hp : zin q2 (q (6 + j)) with
    | true =>
      rw [zcnt_t (p := fun i => zin q2 (q (6 + i))) (n := j) hp] at hz
      refine zs_if_eq (pc := 22) 28 dE_countShared_22 rfl (fun h9 => absurd h9 (by decide)) (fun _ => ?_)
      refine zn_iinc (pc := 25) (ls2 := [_, _, _, _]) dE_countShared_25 rfl (Nat.le_of_ble_eq_true rfl) rfl ?_
      refine zn_iinc (pc := 28) (ls2 := [_, _, _, _]) dE_countShared_28 rfl (Nat.le_of_ble_eq_true rfl) rfl ?_
      refine zs_goto (pc := 31) 4 dE_countShared_31 rfl ?_
      exact hz
    | false =>
      rw [zcnt_f (p := fun i => zin q2 (q (6 + i))) (n := j) hp] at hz
      refine zs_if_eq (pc := 22) 28 dE_countShared_22 rfl (fun _ => ?_) (fun h9 => absurd h9 (by decide))
      refine zn_iinc (pc := 28) (ls2 := [_, _, _, _]) dE_countShared_28 rfl (Nat.le_of_ble_eq_true rfl) rfl ?_
      refine zs_goto (pc := 31) 4 dE_countShared_31 rfl ?_
      exact hz
theorem s_E_countShared {Γ : zG} {l : Launch} (hl : l.stackTraces = false) {d : Nat} (hd : 1 ≤ d) {h : zH} {n : Nat} {e c e2 c2 : Nat} {q q2 : Nat → Nat} (hb : zEb q) (he : h e = some (zEo q c)) (hc : h c = some (zEc q)) (hb2 : zEb q2) (he2 : h e2 = some (zEo q2 c2)) (hc2 : h c2 = some (zEc q2)) : zC Γ l d mE_countShared [.ref e, .ref e2] h n 0 0 (zR (some (.int (nI (zshare q q2)))) h n) := by
  refine zC_of (ls := [some (.ref e), some (.ref e2), none, none]) hl (by decide +kernel) rfl (Nat.le_of_ble_eq_true rfl) rfl ?_
  refine zs_iconst (pc := 0) dE_countShared_0 zi_0 ?_
  refine zs_istore_n (pc := 1) (ls2 := [_, _, _, _]) dE_countShared_1 (Nat.le_of_ble_eq_true rfl) rfl ?_
  refine zs_iconst (pc := 2) dE_countShared_2 zi_0 ?_
  refine zs_istore_n (pc := 3) (ls2 := [_, _, _, _]) dE_countShared_3 (Nat.le_of_ble_eq_true rfl) rfl ?_
  exact lp_E_countShared hl hd hb he hc hb2 he2 hc2 (q 5) 0 rfl

