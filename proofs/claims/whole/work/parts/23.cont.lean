/-! contents: an object, its array of entries, twenty entries with their codes; p: which entry stands at a position -/
def zCo (F : Nat → Nat) (a : Nat) : zE := .inr (0, [.ref a, .int (nI (F 1)), .int (nI (F 2)), .int (nI (F 3)), .int (nI (F 4)), .int (nI (F 5)), .int (nI (F 6)), .int (nI (F 7))])
def zCa (r : Nat) (p : Nat → Nat) : zE := .inl (2, 20, .inr (.inr (.inr (.inr (fun j => some (r + 2 + 2 * p j))))))
def CH (h : zH) (r : Nat) (p : Nat → Nat) (Q : Nat → Nat → Nat) (F : Nat → Nat) : Prop := h r = some (zCo F (r + 1)) ∧ h (r + 1) = some (zCa r p) ∧ ∀ s, s < 20 → h (r + 2 + 2 * s) = some (zEo (Q s) (r + 3 + 2 * s)) ∧ h (r + 3 + 2 * s) = some (zEc (Q s))
def PM (p : Nat → Nat) : Prop := (∀ j, j < 20 → p j < 20) ∧ ∀ i j, i < 20 → j < 20 → p i = p j → i = j
/-- nothing but the m cells from r on has changed -/
def zfr (r m : Nat) (h h1 : zH) : Prop := ∀ q, (q < r ∨ r + m ≤ q) → h1 q = h q
theorem zfr.rf {r m : Nat} {h : zH} : zfr r m h h := fun _ _ => rfl
theorem zfr.tr {r m : Nat} {h h1 h2 : zH} (a : zfr r m h h1) (b : zfr r m h1 h2) : zfr r m h h2 := fun q hq => (b q hq).trans (a q hq)
theorem zfr.u {r m a : Nat} {h : zH} {e : zE} (h1 : r ≤ a) (h2 : a < r + m) : zfr r m h (zu h a e) := fun q hq => zu_n (by omega)
theorem zfr.sub {r m r2 m2 : Nat} {h h1 : zH} (a : zfr r m h h1) (h1' : r2 ≤ r) (h2' : r + m ≤ r2 + m2) : zfr r2 m2 h h1 := fun q hq => a q (by omega)
def zQu (Q : Nat → Nat → Nat) (s : Nat) (q : Nat → Nat) : Nat → Nat → Nat := fun x => if x = s then q else Q x
theorem zQu_s {Q : Nat → Nat → Nat} {s : Nat} {q : Nat → Nat} : zQu Q s q s = q := if_pos rfl
theorem zQu_n {Q : Nat → Nat → Nat} {s x : Nat} {q : Nat → Nat} (h : x ≠ s) : zQu Q s q x = Q x := if_neg h
theorem CH.set {h : zH} {r s : Nat} {p : Nat → Nat} {Q : Nat → Nat → Nat} {F : Nat → Nat} (hC : CH h r p Q F) (hs : s < 20) (q : Nat → Nat) : CH (zEh h (r + 2 + 2 * s) (r + 3 + 2 * s) q) r p (zQu Q s q) F := by
  obtain ⟨h0, h1, h2⟩ := hC
  refine ⟨by rw [zEh_n (by omega) (by omega)]; exact h0, by rw [zEh_n (by omega) (by omega)]; exact h1, fun x hx => ?_⟩
  by_cases e : x = s
  · subst e
    rw [zQu_s]
    exact ⟨zEh_e (by omega), zEh_c⟩
  · rw [zQu_n e, zEh_n (by omega) (by omega), zEh_n (by omega) (by omega)]
    exact h2 x hx
theorem CH.setF {h : zH} {r : Nat} {p : Nat → Nat} {Q : Nat → Nat → Nat} {F : Nat → Nat} (hC : CH h r p Q F) (F2 : Nat → Nat) : CH (zu h r (zCo F2 (r + 1))) r p Q F2 := by
  obtain ⟨h0, h1, h2⟩ := hC
  refine ⟨zu_s, by rw [zu_n (by omega)]; exact h1, fun x hx => ?_⟩
  rw [zu_n (by omega), zu_n (by omega)]
  exact h2 x hx
theorem CH.setP {h : zH} {r : Nat} {p : Nat → Nat} {Q : Nat → Nat → Nat} {F : Nat → Nat} (hC : CH h r p Q F) (p2 : Nat → Nat) : CH (zu h (r + 1) (zCa r p2)) r p2 Q F := by
  obtain ⟨h0, h1, h2⟩ := hC
  refine ⟨by rw [zu_n (by omega)]; exact h0, zu_s, fun x hx => ?_⟩
  rw [zu_n (by omega), zu_n (by omega)]
  exact h2 x hx
theorem zCa_up {r i s : Nat} {p : Nat → Nat} : (.inl (2, 20, .inr (.inr (.inr (.inr (va_up (fun j => some (r + 2 + 2 * p j)) i (some (r + 2 + 2 * s))))))) : zE) = zCa r (zup p i s) := by
  unfold zCa
  congr 7
  funext j
  unfold va_up zup
  split <;> rfl
theorem CH.fr {h h1 : zH} {r r2 m : Nat} {p : Nat → Nat} {Q : Nat → Nat → Nat} {F : Nat → Nat} (hC : CH h r p Q F) (hf : zfr r2 m h h1) (hd : r + 42 ≤ r2 ∨ r2 + m ≤ r) : CH h1 r p Q F := by
  obtain ⟨h0, g1, h2⟩ := hC
  refine ⟨by rw [hf _ (by omega)]; exact h0, by rw [hf _ (by omega)]; exact g1, fun x hx => ?_⟩
  rw [hf _ (by omega), hf _ (by omega)]
  exact h2 x hx
theorem zfr.E {r s : Nat} {h : zH} {q : Nat → Nat} (hs : s < 20) : zfr r 42 h (zEh h (r + 2 + 2 * s) (r + 3 + 2 * s) q) := fun q hq => zEh_n (by omega) (by omega)
theorem lp_C_find_y {Γ : zG} {l : Launch} (hl : l.stackTraces = false) {d : Nat} {h : zH} {n : Nat} {r k : Nat} {x : Int32} {p : Nat → Nat} {Q : Nat → Nat → Nat} {F : Nat → Nat} (hC : CH h r p Q F) (hp : PM p) (hF : F 1 ≤ 20) (hk : k < F 1) (hx : nI (Q (p k) 0) = x) (hx2 : ∀ i, i < k → nI (Q (p i) 0) ≠ x) : ∀ i j, i + j = k → Z Γ l mC_find d 0 0 (zFin Γ (zR (some (.ref (r + 2 + 2 * p k))) h n) 0 0) 2 [some (.ref r), some (.int x), some (.int (nI j))] [] h n 0 0 := by
  intro i
  induction i with
  | zero =>
    intro j hj
    have e9 : j = k := by omega
    subst e9
    refine zs_iload_n (pc := 2) dC_find_2 rfl ?_
    refine zs_aload_n (pc := 3) dC_find_3 rfl ?_
    refine zs_get (pc := 4) dC_find_4 fC_17 (by first | exact hC.1 | exact hC.2.1 | exact (hC.2.2 _ (hp.1 _ (by omega))).1) (by rfl) ?_
    refine zn_icmp_ge (pc := 7) 36 dC_find_7 rfl (by omega) (by omega) (fun h9 => absurd h9 (by omega)) (fun _ => ?_)
    refine zs_aload_n (pc := 10) dC_find_10 rfl ?_
    refine zs_get (pc := 11) dC_find_11 fC_11 (by first | exact hC.1 | exact hC.2.1 | exact (hC.2.2 _ (hp.1 _ (by omega))).1) (by rfl) ?_
    refine zs_iload_n (pc := 14) dC_find_14 rfl ?_
    refine zn_aald (pc := 15) (Or.inl rfl) dC_find_15 (by first | exact hC.1 | exact hC.2.1 | exact (hC.2.2 _ (hp.1 _ (by omega))).1) (by omega) (by decide) (by rfl) ?_
    refine zs_get (pc := 16) dC_find_16 fC_44 (by first | exact hC.1 | exact hC.2.1 | exact (hC.2.2 _ (hp.1 _ (by omega))).1) (by rfl) ?_
    refine zs_iload_n (pc := 19) dC_find_19 rfl ?_
    refine zs_icmp_ne (pc := 20) 30 dC_find_20 rfl (fun h9 => absurd h9 (fun q9 => q9 hx)) (fun _ => ?_)
    refine zs_aload_n (pc := 23) dC_find_23 rfl ?_
    refine zs_get (pc := 24) dC_find_24 fC_11 (by first | exact hC.1 | exact hC.2.1 | exact (hC.2.2 _ (hp.1 _ (by omega))).1) (by rfl) ?_
    refine zs_iload_n (pc := 27) dC_find_27 rfl ?_
    refine zn_aald (pc := 28) (Or.inl rfl) dC_find_28 (by first | exact hC.1 | exact hC.2.1 | exact (hC.2.2 _ (hp.1 _ (by omega))).1) (by omega) (by decide) (by rfl) ?_
    exact zs_aret (pc := 29) dC_find_29 rfl (by first | exact Or.inl rfl | exact Or.inr ⟨_, rfl⟩) (by omega) (by omega) (⟨rfl, rfl, rfl⟩)
  | succ i ih =>
    intro j hj
    have hz := ih (j + 1) (by omega)
    refine zs_iload_n (pc := 2) dC_find_2 rfl ?_
    refine zs_aload_n (pc := 3) dC_find_3 rfl ?_
    refine zs_get (pc := 4) dC_find_4 fC_17 (by first | exact hC.1 | exact hC.2.1 | exact (hC.2.2 _ (hp.1 _ (by omega))).1) (by rfl) ?_
    refine zn_icmp_ge (pc := 7) 36 dC_find_7 rfl (by omega) (by omega) (fun h9 => absurd h9 (by omega)) (fun _ => ?_)
    refine zs_aload_n (pc := 10) dC_find_10 rfl ?_
    refine zs_get (pc := 11) dC_find_11 fC_11 (by first | exact hC.1 | exact hC.2.1 | exact (hC.2.2 _ (hp.1 _ (by omega))).1) (by rfl) ?_
    refine zs_iload_n (pc := 14) dC_find_14 rfl ?_
    refine zn_aald (pc := 15) (Or.inl rfl) dC_find_15 (by first | exact hC.1 | exact hC.2.1 | exact (hC.2.2 _ (hp.1 _ (by omega))).1) (by omega) (by decide) (by rfl) ?_
    refine zs_get (pc := 16) dC_find_16 fC_44 (by first | exact hC.1 | exact hC.2.1 | exact (hC.2.2 _ (hp.1 _ (by omega))).1) (by rfl) ?_
    refine zs_iload_n (pc := 19) dC_find_19 rfl ?_
    refine zs_icmp_ne (pc := 20) 30 dC_find_20 rfl (fun _ => ?_) (fun h9 => absurd h9 (hx2 j (by omega)))
    refine zn_iinc (pc := 30) (ls2 := [_, _, _]) dC_find_30 rfl (Nat.le_of_ble_eq_true rfl) rfl ?_
    refine zs_goto (pc := 33) 2 dC_find_33 rfl ?_
    exact hz
theorem s_C_find_y {Γ : zG} {l : Launch} (hl : l.stackTraces = false) {d : Nat} {h : zH} {n : Nat} {r k : Nat} {x : Int32} {p : Nat → Nat} {Q : Nat → Nat → Nat} {F : Nat → Nat} (hC : CH h r p Q F) (hp : PM p) (hF : F 1 ≤ 20) (hk : k < F 1) (hx : nI (Q (p k) 0) = x) (hx2 : ∀ i, i < k → nI (Q (p i) 0) ≠ x) : zC Γ l d mC_find [.ref r, .int x] h n 0 0 (zR (some (.ref (r + 2 + 2 * p k))) h n) := by
  refine zC_of (ls := [some (.ref r), some (.int x), none]) hl (by decide +kernel) rfl (Nat.le_of_ble_eq_true rfl) rfl ?_
  refine zs_iconst (pc := 0) dC_find_0 zi_0 ?_
  refine zs_istore_n (pc := 1) (ls2 := [_, _, _]) dC_find_1 (Nat.le_of_ble_eq_true rfl) rfl ?_
  exact lp_C_find_y hl hC hp hF hk hx hx2 k 0 rfl
theorem lp_C_find_n {Γ : zG} {l : Launch} (hl : l.stackTraces = false) {d : Nat} {h : zH} {n : Nat} {r : Nat} {x : Int32} {p : Nat → Nat} {Q : Nat → Nat → Nat} {F : Nat → Nat} (hC : CH h r p Q F) (hp : PM p) (hF : F 1 ≤ 20) (hx2 : ∀ i, i < F 1 → nI (Q (p i) 0) ≠ x) : ∀ i j, i + j = F 1 → Z Γ l mC_find d 0 0 (zFin Γ (zR (some .null) h n) 0 0) 2 [some (.ref r), some (.int x), some (.int (nI j))] [] h n 0 0 := by
  intro i
  induction i with
  | zero =>
    intro j hj
    refine zs_iload_n (pc := 2) dC_find_2 rfl ?_
    refine zs_aload_n (pc := 3) dC_find_3 rfl ?_
    refine zs_get (pc := 4) dC_find_4 fC_17 (by first | exact hC.1 | exact hC.2.1 | exact (hC.2.2 _ (hp.1 _ (by omega))).1) (by rfl) ?_
    refine zn_icmp_ge (pc := 7) 36 dC_find_7 rfl (by omega) (by omega) (fun _ => ?_) (fun h9 => absurd h9 (by omega))
    refine zs_null (pc := 36) dC_find_36 ?_
    exact zs_aret (pc := 37) dC_find_37 rfl (by first | exact Or.inl rfl | exact Or.inr ⟨_, rfl⟩) (by omega) (by omega) (⟨rfl, rfl, rfl⟩)
  | succ i ih =>
    intro j hj
    have hz := ih (j + 1) (by omega)
    refine zs_iload_n (pc := 2) dC_find_2 rfl ?_
    refine zs_aload_n (pc := 3) dC_find_3 rfl ?_
    refine zs_get (pc := 4) dC_find_4 fC_17 (by first | exact hC.1 | exact hC.2.1 | exact (hC.2.2 _ (hp.1 _ (by omega))).1) (by rfl) ?_
    refine zn_icmp_ge (pc := 7) 36 dC_find_7 rfl (by omega) (by omega) (fun h9 => absurd h9 (by omega)) (fun _ => ?_)
    refine zs_aload_n (pc := 10) dC_find_10 rfl ?_
    refine zs_get (pc := 11) dC_find_11 fC_11 (by first | exact hC.1 | exact hC.2.1 | exact (hC.2.2 _ (hp.1 _ (by omega))).1) (by rfl) ?_
    refine zs_iload_n (pc := 14) dC_find_14 rfl ?_
    refine zn_aald (pc := 15) (Or.inl rfl) dC_find_15 (by first | exact hC.1 | exact hC.2.1 | exact (hC.2.2 _ (hp.1 _ (by omega))).1) (by omega) (by decide) (by rfl) ?_
    refine zs_get (pc := 16) dC_find_16 fC_44 (by first | exact hC.1 | exact hC.2.1 | exact (hC.2.2 _ (hp.1 _ (by omega))).1) (by rfl) ?_
    refine zs_iload_n (pc := 19) dC_find_19 rfl ?_
    refine zs_icmp_ne (pc := 20) 30 dC_find_20 rfl (fun _ => ?_) (fun h9 => absurd h9 (hx2 j (by omega)))
    refine zn_iinc (pc := 30) (ls2 := [_, _, _]) dC_find_30 rfl (Nat.le_of_ble_eq_true rfl) rfl ?_
    refine zs_goto (pc := 33) 2 dC_find_33 rfl ?_
    exact hz
theorem s_C_find_n {Γ : zG} {l : Launch} (hl : l.stackTraces = false) {d : Nat} {h : zH} {n : Nat} {r : Nat} {x : Int32} {p : Nat → Nat} {Q : Nat → Nat → Nat} {F : Nat → Nat} (hC : CH h r p Q F) (hp : PM p) (hF : F 1 ≤ 20) (hx2 : ∀ i, i < F 1 → nI (Q (p i) 0) ≠ x) : zC Γ l d mC_find [.ref r, .int x] h n 0 0 (zR (some .null) h n) := by
  refine zC_of (ls := [some (.ref r), some (.int x), none]) hl (by decide +kernel) rfl (Nat.le_of_ble_eq_true rfl) rfl ?_
  refine zs_iconst (pc := 0) dC_find_0 zi_0 ?_
  refine zs_istore_n (pc := 1) (ls2 := [_, _, _]) dC_find_1 (Nat.le_of_ble_eq_true rfl) rfl ?_
  exact lp_C_find_n hl hC hp hF hx2 (F 1) 0 rfl
/-! an entry leaves: those behind it move up, its row goes behind those in use -/
def zrot (p : Nat → Nat) (t c : Nat) : Nat → Nat := fun j => if t ≤ j ∧ j + 1 < c then p (j + 1) else if j + 1 = c then p t else p j
def zrp (p : Nat → Nat) (t i : Nat) : Nat → Nat := fun j => if t ≤ j ∧ j + 1 < i then p (j + 1) else p j
theorem PM.rot {p : Nat → Nat} (hp : PM p) {t c : Nat} (ht : t < c) (hc : c ≤ 20) : PM (zrot p t c) := by
  obtain ⟨h1, h2⟩ := hp
  have e : ∀ j, j < 20 → ∃ k, k < 20 ∧ zrot p t c j = p k ∧ (t ≤ j ∧ j + 1 < c → k = j + 1) ∧ (¬ (t ≤ j ∧ j + 1 < c) → j + 1 = c → k = t) ∧ (¬ (t ≤ j ∧ j + 1 < c) → ¬ j + 1 = c → k = j) := by
    intro j hj
    unfold zrot
    by_cases g1 : t ≤ j ∧ j + 1 < c
    · exact ⟨j + 1, by omega, by rw [if_pos g1], by omega, by omega, by omega⟩
    · by_cases g2 : j + 1 = c
      · exact ⟨t, by omega, by rw [if_neg g1, if_pos g2], by omega, by omega, by omega⟩
      · exact ⟨j, by omega, by rw [if_neg g1, if_neg g2], by omega, by omega, by omega⟩
  refine ⟨fun j hj => ?_, fun i j hi hj hij => ?_⟩
  · obtain ⟨k, k1, k2, -⟩ := e j hj
    rw [k2]; exact h1 k k1
  · obtain ⟨k, k1, k2, k3, k4, k5⟩ := e i hi
    obtain ⟨m, m1, m2, m3, m4, m5⟩ := e j hj
    rw [k2, m2] at hij
    have := h2 k m k1 m1 hij
    omega
def zF1 (F : Nat → Nat) (i v : Nat) : Nat → Nat := fun j => if j = i then v else F j
theorem lp_C_discard {Γ : zG} {l : Launch} (hl : l.stackTraces = false) {d : Nat} {h : zH} {n : Nat} {r t : Nat} {p : Nat → Nat} {Q : Nat → Nat → Nat} {F : Nat → Nat} (hC : CH h r p Q F) (hp : PM p) (hF : F 1 ≤ 20) (ht : t < F 1) (hid : ∀ i, i < F 1 → Q (p i) 0 < 2 ^ 31) (hx2 : ∀ i, i < F 1 → i ≠ t → Q (p i) 0 ≠ Q (p t) 0) : ∀ i j, i + j = F 1 → Z Γ l mC_discard d 0 0 (zFin Γ (zR none (zu (zu h (r + 1) (zCa r (zrot p t (F 1)))) r (zCo (zF1 F 1 (F 1 - 1)) (r + 1))) n) 0 0) 4 [some (.ref r), some (.ref (r + 2 + 2 * p t)), some (.int (nI (if j ≤ t then j else j - 1))), some (.int (nI j))] [] (zu h (r + 1) (zCa r (zrp p t j))) n 0 0 := by
  intro i
  have hidt := hid t ht
  induction i with
  | zero =>
    intro j hj
    have e9 : j = F 1 := by omega
    subst e9
    rw [if_neg (by omega)]
    refine zs_iload_n (pc := 4) dC_discard_4 rfl ?_
    refine zs_aload_n (pc := 5) dC_discard_5 rfl ?_
    refine zs_get (pc := 6) dC_discard_6 fC_17 (by first | exact zu_s | exact hC.1 | (rw [zu_n (by omega)]; exact hC.1) | exact (hC.2.2 _ (hp.1 _ (by omega))).1 | (rw [zu_n (by omega)]; exact (hC.2.2 _ (hp.1 _ (by omega))).1)) (by rfl) ?_
    refine zn_icmp_ge (pc := 9) 49 dC_discard_9 rfl (by omega) (by omega) (fun _ => ?_) (fun h9 => absurd h9 (by omega))
    refine zs_iload_n (pc := 49) dC_discard_49 rfl ?_
    refine zs_aload_n (pc := 50) dC_discard_50 rfl ?_
    refine zs_get (pc := 51) dC_discard_51 fC_17 (by first | exact zu_s | exact hC.1 | (rw [zu_n (by omega)]; exact hC.1) | exact (hC.2.2 _ (hp.1 _ (by omega))).1 | (rw [zu_n (by omega)]; exact (hC.2.2 _ (hp.1 _ (by omega))).1)) (by rfl) ?_
    refine zn_icmp_ge (pc := 54) 69 dC_discard_54 rfl (by omega) (by omega) (fun h9 => absurd h9 (by omega)) (fun _ => ?_)
    refine zs_aload_n (pc := 57) dC_discard_57 rfl ?_
    refine zs_get (pc := 58) dC_discard_58 fC_11 (by first | exact zu_s | exact hC.1 | (rw [zu_n (by omega)]; exact hC.1) | exact (hC.2.2 _ (hp.1 _ (by omega))).1 | (rw [zu_n (by omega)]; exact (hC.2.2 _ (hp.1 _ (by omega))).1)) (by rfl) ?_
    refine zs_iload_n (pc := 61) dC_discard_61 rfl ?_
    refine zs_aload_n (pc := 62) dC_discard_62 rfl ?_
    refine zn_aast (pc := 63) (kd := 2) dC_discard_63 (by decide) (by first | exact zu_s | exact hC.1 | (rw [zu_n (by omega)]; exact hC.1) | exact (hC.2.2 _ (hp.1 _ (by omega))).1 | (rw [zu_n (by omega)]; exact (hC.2.2 _ (hp.1 _ (by omega))).1)) (by first | exact zu_s | exact hC.1 | (rw [zu_n (by omega)]; exact hC.1) | exact (hC.2.2 _ (hp.1 _ (by omega))).1 | (rw [zu_n (by omega)]; exact (hC.2.2 _ (hp.1 _ (by omega))).1)) (by rfl) (by rfl) (by omega) (by decide) ?_
    refine zs_aload_n (pc := 64) dC_discard_64 rfl ?_
    refine zs_iload_n (pc := 65) dC_discard_65 rfl ?_
    rw [zu_zu]
    have e3 : zrot p t (F 1) = zup (zrp p t (F 1)) (F 1 - 1) (p t) := by
      funext k
      unfold zrot zup zrp
      (repeat' split) <;> first | rfl | (exfalso; omega) | (congr 1; omega) | omega
    rw [e3, ← zCa_up]
    refine zs_put (pc := 66) (fs2 := [_, _, _, _, _, _, _, _]) dC_discard_66 fC_17 (by first | exact zu_s | exact hC.1 | (rw [zu_n (by omega)]; exact hC.1) | exact (hC.2.2 _ (hp.1 _ (by omega))).1 | (rw [zu_n (by omega)]; exact (hC.2.2 _ (hp.1 _ (by omega))).1)) (by rfl) (by rfl) (by exact Nat.le_of_ble_eq_true rfl) (by rfl) ?_
    exact zs_vret (pc := 69) dC_discard_69 rfl (by omega) (by omega) (⟨rfl, rfl, rfl⟩)
  | succ i ih =>
    intro j hj
    have hz := ih (j + 1) (by omega)
    have hidj := hid j (by omega)
    have eq1 : zrp p t j j = p j := by unfold zrp; rw [if_neg (by omega)]
    refine zs_iload_n (pc := 4) dC_discard_4 rfl ?_
    refine zs_aload_n (pc := 5) dC_discard_5 rfl ?_
    refine zs_get (pc := 6) dC_discard_6 fC_17 (by first | exact zu_s | exact hC.1 | (rw [zu_n (by omega)]; exact hC.1) | exact (hC.2.2 _ (hp.1 _ (by omega))).1 | (rw [zu_n (by omega)]; exact (hC.2.2 _ (hp.1 _ (by omega))).1)) (by rfl) ?_
    refine zn_icmp_ge (pc := 9) 49 dC_discard_9 rfl (by omega) (by omega) (fun h9 => absurd h9 (by omega)) (fun _ => ?_)
    refine zs_aload_n (pc := 12) dC_discard_12 rfl ?_
    refine zs_get (pc := 13) dC_discard_13 fC_11 (by first | exact zu_s | exact hC.1 | (rw [zu_n (by omega)]; exact hC.1) | exact (hC.2.2 _ (hp.1 _ (by omega))).1 | (rw [zu_n (by omega)]; exact (hC.2.2 _ (hp.1 _ (by omega))).1)) (by rfl) ?_
    refine zs_iload_n (pc := 16) dC_discard_16 rfl ?_
    refine zn_aald (pc := 17) (Or.inl rfl) dC_discard_17 (by first | exact zu_s | exact hC.1 | (rw [zu_n (by omega)]; exact hC.1) | exact (hC.2.2 _ (hp.1 _ (by omega))).1 | (rw [zu_n (by omega)]; exact (hC.2.2 _ (hp.1 _ (by omega))).1)) (by omega) (by decide) (by rfl) ?_
    rw [eq1]
    refine zs_get (pc := 18) dC_discard_18 fC_44 (by first | exact zu_s | exact hC.1 | (rw [zu_n (by omega)]; exact hC.1) | exact (hC.2.2 _ (hp.1 _ (by omega))).1 | (rw [zu_n (by omega)]; exact (hC.2.2 _ (hp.1 _ (by omega))).1)) (by rfl) ?_
    refine zs_aload_n (pc := 21) dC_discard_21 rfl ?_
    refine zs_get (pc := 22) dC_discard_22 fC_44 (by first | exact zu_s | exact hC.1 | (rw [zu_n (by omega)]; exact hC.1) | exact (hC.2.2 _ (hp.1 _ (by omega))).1 | (rw [zu_n (by omega)]; exact (hC.2.2 _ (hp.1 _ (by omega))).1)) (by rfl) ?_
    refine zn_icmp_eq (pc := 25) 43 dC_discard_25 rfl (by omega) (by omega) (fun h9 => ?_) (fun h9 => ?_)
    · have hjt : j = t := Classical.byContradiction fun q9 => hx2 j (by omega) q9 h9
      have e3 : zrp p t (j + 1) = zrp p t j := by
        funext k
        unfold zrp
        (repeat' split) <;> first | rfl | (exfalso; omega) | (congr 1; omega) | omega
      rw [if_neg (by omega), e3] at hz
      rw [if_pos (by omega)]
      refine zn_iinc (pc := 43) (ls2 := [_, _, _, _]) dC_discard_43 rfl (Nat.le_of_ble_eq_true rfl) rfl ?_
      refine zs_goto (pc := 46) 4 dC_discard_46 rfl ?_
      exact hz
    · have hjt : j ≠ t := fun q9 => h9 (by rw [q9])
      by_cases hlt : j ≤ t
      · rw [if_pos (by omega)] at hz
        rw [if_pos hlt]
        refine zs_aload_n (pc := 28) dC_discard_28 rfl ?_
        refine zs_get (pc := 29) dC_discard_29 fC_11 (by first | exact zu_s | exact hC.1 | (rw [zu_n (by omega)]; exact hC.1) | exact (hC.2.2 _ (hp.1 _ (by omega))).1 | (rw [zu_n (by omega)]; exact (hC.2.2 _ (hp.1 _ (by omega))).1)) (by rfl) ?_
        refine zs_iload_n (pc := 32) dC_discard_32 rfl ?_
        refine zs_aload_n (pc := 33) dC_discard_33 rfl ?_
        refine zs_get (pc := 34) dC_discard_34 fC_11 (by first | exact zu_s | exact hC.1 | (rw [zu_n (by omega)]; exact hC.1) | exact (hC.2.2 _ (hp.1 _ (by omega))).1 | (rw [zu_n (by omega)]; exact (hC.2.2 _ (hp.1 _ (by omega))).1)) (by rfl) ?_
        refine zs_iload_n (pc := 37) dC_discard_37 rfl ?_
        refine zn_aald (pc := 38) (Or.inl rfl) dC_discard_38 (by first | exact zu_s | exact hC.1 | (rw [zu_n (by omega)]; exact hC.1) | exact (hC.2.2 _ (hp.1 _ (by omega))).1 | (rw [zu_n (by omega)]; exact (hC.2.2 _ (hp.1 _ (by omega))).1)) (by omega) (by decide) (by rfl) ?_
        rw [eq1]
        refine zn_aast (pc := 39) (kd := 2) dC_discard_39 (by decide) (by first | exact zu_s | exact hC.1 | (rw [zu_n (by omega)]; exact hC.1) | exact (hC.2.2 _ (hp.1 _ (by omega))).1 | (rw [zu_n (by omega)]; exact (hC.2.2 _ (hp.1 _ (by omega))).1)) (by first | exact zu_s | exact hC.1 | (rw [zu_n (by omega)]; exact hC.1) | exact (hC.2.2 _ (hp.1 _ (by omega))).1 | (rw [zu_n (by omega)]; exact (hC.2.2 _ (hp.1 _ (by omega))).1)) (by rfl) (by rfl) (by omega) (by decide) ?_
        refine zn_iinc (pc := 40) (ls2 := [_, _, _, _]) dC_discard_40 rfl (Nat.le_of_ble_eq_true rfl) rfl ?_
        refine zn_iinc (pc := 43) (ls2 := [_, _, _, _]) dC_discard_43 rfl (Nat.le_of_ble_eq_true rfl) rfl ?_
        refine zs_goto (pc := 46) 4 dC_discard_46 rfl ?_
        rw [zu_zu, zCa_up]
        have e3 : zup (zrp p t j) j (p j) = zrp p t (j + 1) := by
          funext k
          unfold zup zrp
          (repeat' split) <;> first | rfl | (exfalso; omega) | (congr 1; omega) | omega
        rw [e3]
        exact hz
      · rw [if_neg (by omega)] at hz
        rw [if_neg hlt]
        refine zs_aload_n (pc := 28) dC_discard_28 rfl ?_
        refine zs_get (pc := 29) dC_discard_29 fC_11 (by first | exact zu_s | exact hC.1 | (rw [zu_n (by omega)]; exact hC.1) | exact (hC.2.2 _ (hp.1 _ (by omega))).1 | (rw [zu_n (by omega)]; exact (hC.2.2 _ (hp.1 _ (by omega))).1)) (by rfl) ?_
        refine zs_iload_n (pc := 32) dC_discard_32 rfl ?_
        refine zs_aload_n (pc := 33) dC_discard_33 rfl ?_
        refine zs_get (pc := 34) dC_discard_34 fC_11 (by first | exact zu_s | exact hC.1 | (rw [zu_n (by omega)]; exact hC.1) | exact (hC.2.2 _ (hp.1 _ (by omega))).1 | (rw [zu_n (by omega)]; exact (hC.2.2 _ (hp.1 _ (by omega))).1)) (by rfl) ?_
        refine zs_iload_n (pc := 37) dC_discard_37 rfl ?_
        refine zn_aald (pc := 38) (Or.inl rfl) dC_discard_38 (by first | exact zu_s | exact hC.1 | (rw [zu_n (by omega)]; exact hC.1) | exact (hC.2.2 _ (hp.1 _ (by omega))).1 | (rw [zu_n (by omega)]; exact (hC.2.2 _ (hp.1 _ (by omega))).1)) (by omega) (by decide) (by rfl) ?_
        rw [eq1]
        refine zn_aast (pc := 39) (kd := 2) dC_discard_39 (by decide) (by first | exact zu_s | exact hC.1 | (rw [zu_n (by omega)]; exact hC.1) | exact (hC.2.2 _ (hp.1 _ (by omega))).1 | (rw [zu_n (by omega)]; exact (hC.2.2 _ (hp.1 _ (by omega))).1)) (by first | exact zu_s | exact hC.1 | (rw [zu_n (by omega)]; exact hC.1) | exact (hC.2.2 _ (hp.1 _ (by omega))).1 | (rw [zu_n (by omega)]; exact (hC.2.2 _ (hp.1 _ (by omega))).1)) (by rfl) (by rfl) (by omega) (by decide) ?_
        refine zn_iinc (pc := 40) (ls2 := [_, _, _, _]) dC_discard_40 rfl (Nat.le_of_ble_eq_true rfl) rfl ?_
        refine zn_iinc (pc := 43) (ls2 := [_, _, _, _]) dC_discard_43 rfl (Nat.le_of_ble_eq_true rfl) rfl ?_
        refine zs_goto (pc := 46) 4 dC_discard_46 rfl ?_
        rw [zu_zu, zCa_up]
        have e3 : zup (zrp p t j) (j - 1) (p j) = zrp p t (j + 1) := by
          funext k
          unfold zup zrp
          (repeat' split) <;> first | rfl | (exfalso; omega) | (congr 1; omega) | omega
        rw [e3]
        rw [show j - 1 + 1 = j + 1 - 1 by omega]
        exact hz
theorem s_C_discard {Γ : zG} {l : Launch} (hl : l.stackTraces = false) {d : Nat} {h : zH} {n : Nat} {r t : Nat} {p : Nat → Nat} {Q : Nat → Nat → Nat} {F : Nat → Nat} (hC : CH h r p Q F) (hp : PM p) (hF : F 1 ≤ 20) (ht : t < F 1) (hid : ∀ i, i < F 1 → Q (p i) 0 < 2 ^ 31) (hx2 : ∀ i, i < F 1 → i ≠ t → Q (p i) 0 ≠ Q (p t) 0) : zC Γ l d mC_discard [.ref r, .ref (r + 2 + 2 * p t)] h n 0 0 (zR none (zu (zu h (r + 1) (zCa r (zrot p t (F 1)))) r (zCo (zF1 F 1 (F 1 - 1)) (r + 1))) n) := by
  refine zC_of (ls := [some (.ref r), some (.ref (r + 2 + 2 * p t)), none, none]) hl (by decide +kernel) rfl (Nat.le_of_ble_eq_true rfl) rfl ?_
  refine zs_iconst (pc := 0) dC_discard_0 zi_0 ?_
  refine zs_istore_n (pc := 1) (ls2 := [_, _, _, _]) dC_discard_1 (Nat.le_of_ble_eq_true rfl) rfl ?_
  refine zs_iconst (pc := 2) dC_discard_2 zi_0 ?_
  refine zs_istore_n (pc := 3) (ls2 := [_, _, _, _]) dC_discard_3 (Nat.le_of_ble_eq_true rfl) rfl ?_
  have h0 := lp_C_discard (Γ := Γ) hl (d := d) (h := h) (n := n) hC hp hF ht hid hx2 (F 1) 0 rfl
  have ez : zu h (r + 1) (zCa r (zrp p t 0)) = h := zu_id (by rw [hC.2.1]; congr 1; unfold zCa zrp; congr 7; funext j; rw [if_neg (by omega)])
  rw [ez, if_pos (Nat.zero_le _)] at h0
  exact h0
theorem lp_C_copyFrom {Γ : zG} {l : Launch} (hl : l.stackTraces = false) {d : Nat} (hd : 1 ≤ d) {h : zH} {n : Nat} {r r2 : Nat} {p p2 : Nat → Nat} {Q2 : Nat → Nat → Nat} {F F2 : Nat → Nat} (hp : PM p) (hp2 : PM p2) (hF2 : F2 1 ≤ 20) (hr : r + 42 ≤ r2 ∨ r2 + 42 ≤ r) : ∀ i j, i + j = F2 1 → ∀ (h1 : zH) (Q : Nat → Nat → Nat), CH h1 r p Q F → CH h1 r2 p2 Q2 F2 → zfr r 42 h h1 → (∀ k, k < j → ∀ m, m < 12 → Q (p k) m = Q2 (p2 k) m) → Z Γ l mC_copyFrom d 0 0 (zFin Γ (fun o h' n' => o = .inl none ∧ n' = n ∧ zfr r 42 h h' ∧ ∃ Q', CH h' r p Q' F2 ∧ ∀ k, k < F2 1 → ∀ m, m < 12 → Q' (p k) m = Q2 (p2 k) m) 0 0) 2 [some (.ref r), some (.ref r2), some (.int (nI j))] [] h1 n 0 0 := by
  intro i
  induction i with
  | zero =>
    intro j hj h1 Q hC hC2 hfr hag
    refine zs_iload_n (pc := 2) dC_copyFrom_2 rfl ?_
    refine zs_aload_n (pc := 3) dC_copyFrom_3 rfl ?_
    refine zs_get (pc := 4) dC_copyFrom_4 fC_17 (by first | exact hC.1 | exact hC.2.1 | exact hC2.1 | exact hC2.2.1 | exact zu_s | (rw [zu_n (by omega)]; exact hC2.1)) (by rfl) ?_
    refine zn_icmp_ge (pc := 7) 31 dC_copyFrom_7 rfl (by omega) (by omega) (fun _ => ?_) (fun h9 => absurd h9 (by omega))
    refine zs_aload_n (pc := 31) dC_copyFrom_31 rfl ?_
    refine zs_aload_n (pc := 32) dC_copyFrom_32 rfl ?_
    refine zs_get (pc := 33) dC_copyFrom_33 fC_17 (by first | exact hC.1 | exact hC.2.1 | exact hC2.1 | exact hC2.2.1 | exact zu_s | (rw [zu_n (by omega)]; exact hC2.1)) (by rfl) ?_
    refine zs_put (pc := 36) (fs2 := [_, _, _, _, _, _, _, _]) dC_copyFrom_36 fC_17 (by first | exact hC.1 | exact hC.2.1 | exact hC2.1 | exact hC2.2.1 | exact zu_s | (rw [zu_n (by omega)]; exact hC2.1)) (by rfl) (by rfl) (by exact Nat.le_of_ble_eq_true rfl) (by rfl) ?_
    refine zs_aload_n (pc := 39) dC_copyFrom_39 rfl ?_
    refine zs_aload_n (pc := 40) dC_copyFrom_40 rfl ?_
    refine zs_get (pc := 41) dC_copyFrom_41 fC_21 (by first | exact hC.1 | exact hC.2.1 | exact hC2.1 | exact hC2.2.1 | exact zu_s | (rw [zu_n (by omega)]; exact hC2.1)) (by rfl) ?_
    refine zs_putU (pc := 44) (fs2 := [_, _, _, _, _, _, _, _]) dC_copyFrom_44 fC_21 (by rfl) (by rfl) (by exact Nat.le_of_ble_eq_true rfl) (by rfl) ?_
    refine zs_aload_n (pc := 47) dC_copyFrom_47 rfl ?_
    refine zs_aload_n (pc := 48) dC_copyFrom_48 rfl ?_
    refine zs_get (pc := 49) dC_copyFrom_49 fC_24 (by first | exact hC.1 | exact hC.2.1 | exact hC2.1 | exact hC2.2.1 | exact zu_s | (rw [zu_n (by omega)]; exact hC2.1)) (by rfl) ?_
    refine zs_putU (pc := 52) (fs2 := [_, _, _, _, _, _, _, _]) dC_copyFrom_52 fC_24 (by rfl) (by rfl) (by exact Nat.le_of_ble_eq_true rfl) (by rfl) ?_
    refine zs_aload_n (pc := 55) dC_copyFrom_55 rfl ?_
    refine zs_aload_n (pc := 56) dC_copyFrom_56 rfl ?_
    refine zs_get (pc := 57) dC_copyFrom_57 fC_27 (by first | exact hC.1 | exact hC.2.1 | exact hC2.1 | exact hC2.2.1 | exact zu_s | (rw [zu_n (by omega)]; exact hC2.1)) (by rfl) ?_
    refine zs_putU (pc := 60) (fs2 := [_, _, _, _, _, _, _, _]) dC_copyFrom_60 fC_27 (by rfl) (by rfl) (by exact Nat.le_of_ble_eq_true rfl) (by rfl) ?_
    refine zs_aload_n (pc := 63) dC_copyFrom_63 rfl ?_
    refine zs_aload_n (pc := 64) dC_copyFrom_64 rfl ?_
    refine zs_get (pc := 65) dC_copyFrom_65 fC_30 (by first | exact hC.1 | exact hC.2.1 | exact hC2.1 | exact hC2.2.1 | exact zu_s | (rw [zu_n (by omega)]; exact hC2.1)) (by rfl) ?_
    refine zs_putU (pc := 68) (fs2 := [_, _, _, _, _, _, _, _]) dC_copyFrom_68 fC_30 (by rfl) (by rfl) (by exact Nat.le_of_ble_eq_true rfl) (by rfl) ?_
    refine zs_aload_n (pc := 71) dC_copyFrom_71 rfl ?_
    refine zs_aload_n (pc := 72) dC_copyFrom_72 rfl ?_
    refine zs_get (pc := 73) dC_copyFrom_73 fC_33 (by first | exact hC.1 | exact hC.2.1 | exact hC2.1 | exact hC2.2.1 | exact zu_s | (rw [zu_n (by omega)]; exact hC2.1)) (by rfl) ?_
    refine zs_putU (pc := 76) (fs2 := [_, _, _, _, _, _, _, _]) dC_copyFrom_76 fC_33 (by rfl) (by rfl) (by exact Nat.le_of_ble_eq_true rfl) (by rfl) ?_
    refine zs_aload_n (pc := 79) dC_copyFrom_79 rfl ?_
    refine zs_aload_n (pc := 80) dC_copyFrom_80 rfl ?_
    refine zs_get (pc := 81) dC_copyFrom_81 fC_36 (by first | exact hC.1 | exact hC.2.1 | exact hC2.1 | exact hC2.2.1 | exact zu_s | (rw [zu_n (by omega)]; exact hC2.1)) (by rfl) ?_
    refine zs_putU (pc := 84) (fs2 := [_, _, _, _, _, _, _, _]) dC_copyFrom_84 fC_36 (by rfl) (by rfl) (by exact Nat.le_of_ble_eq_true rfl) (by rfl) ?_
    exact zs_vret (pc := 87) dC_copyFrom_87 rfl (by omega) (by omega) (⟨rfl, rfl, hfr.tr (zfr.u (by omega) (by omega)), Q, hC.setF F2, fun k hk => hag k (by omega)⟩)
  | succ i ih =>
    intro j hj h1 Q hC hC2 hfr hag
    have hpj := hp.1 j (by omega)
    have hpj2 := hp2.1 j (by omega)
    have g1 := hC.2.2 (p j) hpj
    have g2 := hC2.2.2 (p2 j) hpj2
    refine zs_iload_n (pc := 2) dC_copyFrom_2 rfl ?_
    refine zs_aload_n (pc := 3) dC_copyFrom_3 rfl ?_
    refine zs_get (pc := 4) dC_copyFrom_4 fC_17 (by first | exact hC.1 | exact hC.2.1 | exact hC2.1 | exact hC2.2.1 | exact zu_s | (rw [zu_n (by omega)]; exact hC2.1)) (by rfl) ?_
    refine zn_icmp_ge (pc := 7) 31 dC_copyFrom_7 rfl (by omega) (by omega) (fun h9 => absurd h9 (by omega)) (fun _ => ?_)
    refine zs_aload_n (pc := 10) dC_copyFrom_10 rfl ?_
    refine zs_get (pc := 11) dC_copyFrom_11 fC_11 (by first | exact hC.1 | exact hC.2.1 | exact hC2.1 | exact hC2.2.1 | exact zu_s | (rw [zu_n (by omega)]; exact hC2.1)) (by rfl) ?_
    refine zs_iload_n (pc := 14) dC_copyFrom_14 rfl ?_
    refine zn_aald (pc := 15) (Or.inl rfl) dC_copyFrom_15 (by first | exact hC.1 | exact hC.2.1 | exact hC2.1 | exact hC2.2.1 | exact zu_s | (rw [zu_n (by omega)]; exact hC2.1)) (by omega) (by decide) (by rfl) ?_
    refine zs_aload_n (pc := 16) dC_copyFrom_16 rfl ?_
    refine zs_get (pc := 17) dC_copyFrom_17 fC_11 (by first | exact hC.1 | exact hC.2.1 | exact hC2.1 | exact hC2.2.1 | exact zu_s | (rw [zu_n (by omega)]; exact hC2.1)) (by rfl) ?_
    refine zs_iload_n (pc := 20) dC_copyFrom_20 rfl ?_
    refine zn_aald (pc := 21) (Or.inl rfl) dC_copyFrom_21 (by first | exact hC.1 | exact hC.2.1 | exact hC2.1 | exact hC2.2.1 | exact zu_s | (rw [zu_n (by omega)]; exact hC2.1)) (by omega) (by decide) (by rfl) ?_
    refine zcV0_1 (pc := 22) (d2 := d - 1) (s_E_copyFrom hl g1.1 g1.2 g2.1 g2.2 (by omega) (by omega) (by omega)) dC_copyFrom_22 kC_40 mdE_copyFrom miE_copyFrom mvE_copyFrom rfl (by exact g1.1) rfl (Nat.le_of_ble_eq_true rfl) (by omega) (by omega) (by omega) ?_
    refine zn_iinc (pc := 25) (ls2 := [_, _, _]) dC_copyFrom_25 rfl (Nat.le_of_ble_eq_true rfl) rfl ?_
    refine zs_goto (pc := 28) 2 dC_copyFrom_28 rfl ?_
    refine ih (j + 1) (by omega) _ _ (hC.set hpj _) (hC2.fr (zfr.E hpj) (by omega)) (hfr.tr (zfr.E hpj)) (fun k hk m hm => ?_)
    by_cases e : k = j
    · subst e
      rw [zQu_s]
      unfold zcp
      rw [if_pos hm]
    · rw [zQu_n (fun q => e (hp.2 k j (by omega) (by omega) q))]
      exact hag k (by omega) m hm
theorem s_C_copyFrom {Γ : zG} {l : Launch} (hl : l.stackTraces = false) {d : Nat} (hd : 1 ≤ d) {h : zH} {n : Nat} {r r2 : Nat} {p p2 : Nat → Nat} {Q Q2 : Nat → Nat → Nat} {F F2 : Nat → Nat} (hC : CH h r p Q F) (hC2 : CH h r2 p2 Q2 F2) (hp : PM p) (hp2 : PM p2) (hF2 : F2 1 ≤ 20) (hr : r + 42 ≤ r2 ∨ r2 + 42 ≤ r) : zC Γ l d mC_copyFrom [.ref r, .ref r2] h n 0 0 (fun o h' n' => o = .inl none ∧ n' = n ∧ zfr r 42 h h' ∧ ∃ Q', CH h' r p Q' F2 ∧ ∀ k, k < F2 1 → ∀ m, m < 12 → Q' (p k) m = Q2 (p2 k) m) := by
  refine zC_of (ls := [some (.ref r), some (.ref r2), none]) hl (by decide +kernel) rfl (Nat.le_of_ble_eq_true rfl) rfl ?_
  refine zs_iconst (pc := 0) dC_copyFrom_0 zi_0 ?_
  refine zs_istore_n (pc := 1) (ls2 := [_, _, _]) dC_copyFrom_1 (Nat.le_of_ble_eq_true rfl) rfl ?_
  exact lp_C_copyFrom hl hd hp hp2 hF2 hr (F2 1) 0 rfl h Q hC hC2 zfr.rf (fun k hk => by omega)

