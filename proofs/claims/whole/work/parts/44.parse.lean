/-! the parser: pure -/
/-- how many characters of word i stand at po, from m on -/
def zlk (T : Nat → Nat) (n po i : Nat) : Nat → Nat → Nat
  | 0, m => m
  | k + 1, m => if m < zwl i ∧ po + m < n ∧ zwc i m = T (po + m) then zlk T n po i k (m + 1) else m
theorem zlk_le {T : Nat → Nat} {n po i : Nat} : ∀ k m, m ≤ zlk T n po i k m ∧ zlk T n po i k m ≤ m + k := by
  intro k
  induction k with
  | zero => intro m; exact ⟨Nat.le_refl _, Nat.le_refl _⟩
  | succ k ih =>
    intro m
    unfold zlk
    split
    · have := ih (m + 1); omega
    · omega
theorem zlk_in {T : Nat → Nat} {n po i : Nat} : ∀ k m, m ≤ zwl i → po + m ≤ n ∨ m = 0 → zlk T n po i k m ≤ zwl i ∧ (po + zlk T n po i k m ≤ n ∨ zlk T n po i k m = 0) := by
  intro k
  induction k with
  | zero => intro m h1 h2; exact ⟨h1, h2⟩
  | succ k ih =>
    intro m h1 h2
    unfold zlk
    split
    · exact ih (m + 1) (by omega) (by omega)
    · exact ⟨h1, h2⟩
def zlike (T : Nat → Nat) (n po i : Nat) : Nat := zlk T n po i (zwl i) 0
theorem zlike_le {T : Nat → Nat} {n po i : Nat} : zlike T n po i ≤ zwl i := by
  have := (zlk_le (T := T) (n := n) (po := po) (i := i) (zwl i) 0).2
  unfold zlike
  omega
theorem zlike_n {T : Nat → Nat} {n po i : Nat} : po + zlike T n po i ≤ n ∨ zlike T n po i = 0 := (zlk_in (zwl i) 0 (Nat.zero_le _) (Or.inr rfl)).2
/-- the word that stands at po, from the k-th on; else 10, and the longest part that stands there -/
def zwd (T : Nat → Nat) (n po : Nat) : Nat → Nat → Nat → Nat × Nat
  | 0, _, b => (10, b)
  | f + 1, k, b => if zlike T n po k = zwl k then (k, zwl k) else zwd T n po f (k + 1) (max b (zlike T n po k))
theorem zwd_ok {T : Nat → Nat} {n po : Nat} : ∀ f k b, k + f = 10 → (po + b ≤ n ∨ b = 0) → (zwd T n po f k b).1 ≤ 10 ∧ (po + (zwd T n po f k b).2 ≤ n ∨ (zwd T n po f k b).2 = 0) ∧ ((zwd T n po f k b).1 < 10 → (zwd T n po f k b).2 = zwl (zwd T n po f k b).1) := by
  intro f
  induction f with
  | zero => intro k b _ h; exact ⟨Nat.le_refl _, h, fun q => absurd q (by show ¬ 10 < 10; omega)⟩
  | succ f ih =>
    intro k b hk h
    unfold zwd
    have h2 := zlike_n (T := T) (n := n) (po := po) (i := k)
    by_cases e : zlike T n po k = zwl k
    · rw [if_pos e]
      exact ⟨by show k ≤ 10; omega, by show po + zwl k ≤ n ∨ zwl k = 0; rw [← e]; exact h2, fun _ => rfl⟩
    · rw [if_neg e]
      exact ih (k + 1) _ (by omega) (by omega)
/-- digits from po on: where they end, how many, their number -/
def zrd (T : Nat → Nat) (n : Nat) : Nat → Nat → Nat → Nat → Nat × Nat × Nat
  | 0, po, c, v => (po, c, v)
  | k + 1, po, c, v => if po < n ∧ 48 ≤ T po ∧ T po ≤ 57 then zrd T n k (po + 1) (c + 1) (10 * v + (T po - 48)) else (po, c, v)
theorem zrd_ok {T : Nat → Nat} {n : Nat} : ∀ k po c v, po ≤ n → (zrd T n k po c v).1 ≤ n ∧ po ≤ (zrd T n k po c v).1 ∧ c ≤ (zrd T n k po c v).2.1 ∧ (zrd T n k po c v).2.1 ≤ c + k := by
  intro k
  induction k with
  | zero => intro po c v h; exact ⟨h, Nat.le_refl _, Nat.le_refl _, Nat.le_refl _⟩
  | succ k ih =>
    intro po c v h
    unfold zrd
    split
    · have := ih (po + 1) (c + 1) (10 * v + (T po - 48)) (by omega)
      omega
    · exact ⟨h, Nat.le_refl _, Nat.le_refl _, by show c ≤ c + (k + 1); omega⟩
/-- a space and a number of at most m digits: does it stand there, where it ends, how many digits, which number -/
def zrn (T : Nat → Nat) (n m po : Nat) : Bool × Nat × Nat × Nat := if po < n ∧ T po = 32 then (decide (0 < (zrd T n m (po + 1) 0 0).2.1), zrd T n m (po + 1) 0 0) else (false, po, 0, 0)
theorem zrn_ok {T : Nat → Nat} {n m po : Nat} (h : po ≤ n) : po ≤ (zrn T n m po).2.1 ∧ (zrn T n m po).2.1 ≤ n ∧ (zrn T n m po).2.2.1 ≤ m := by
  unfold zrn
  split
  · have := zrd_ok (T := T) (n := n) m (po + 1) 0 0 (by omega)
    refine ⟨?_, ?_, ?_⟩
    · show po ≤ (zrd T n m (po + 1) 0 0).1; omega
    · show (zrd T n m (po + 1) 0 0).1 ≤ n; omega
    · show (zrd T n m (po + 1) 0 0).2.1 ≤ m; omega
  · exact ⟨Nat.le_refl _, h, Nat.zero_le _⟩
/-- a command's arguments: do they stand there, where they end, the first, the second -/
def zpa (T : Nat → Nat) (n k po : Nat) : Bool × Nat × Nat × Nat :=
  if k = 6 then (true, po, 0, 0)
  else if k = 0 ∨ k = 7 then ((zrn T n 1 po).1, (zrn T n 1 po).2.1, (zrn T n 1 po).2.2.2, 0)
  else if k = 1 ∨ k = 2 ∨ k = 5 then (if (zrn T n 3 po).1 = true then ((zrn T n 3 (zrn T n 3 po).2.1).1, (zrn T n 3 (zrn T n 3 po).2.1).2.1, (zrn T n 3 po).2.2.2, (zrn T n 3 (zrn T n 3 po).2.1).2.2.2) else (false, (zrn T n 3 po).2.1, 0, 0))
  else if k = 8 then (if po < n ∧ T po = 32 then ((zrn T n 3 po).1, (zrn T n 3 po).2.1, (zrn T n 3 po).2.2.1, (zrn T n 3 po).2.2.2) else (true, po, 0, 0))
  else ((zrn T n 3 po).1, (zrn T n 3 po).2.1, (zrn T n 3 po).2.2.2, 0)
theorem zpa_ok {T : Nat → Nat} {n k po : Nat} (h : po ≤ n) : po ≤ (zpa T n k po).2.1 ∧ (zpa T n k po).2.1 ≤ n := by
  have h1 := zrn_ok (T := T) (m := 1) h
  have h3 := zrn_ok (T := T) (m := 3) h
  have h33 := zrn_ok (T := T) (m := 3) h3.2.1
  unfold zpa
  (repeat' split) <;> first | exact ⟨Nat.le_refl _, h⟩ | exact ⟨h1.1, h1.2.1⟩ | exact ⟨h3.1, h3.2.1⟩ | exact ⟨Nat.le_trans h3.1 h33.1, h33.2.1⟩
abbrev zCmd : Type := Nat × Nat × Nat
/-- a command: does it stand there, where it ends, its kind and arguments -/
def zpc (T : Nat → Nat) (n po : Nat) : Bool × Nat × zCmd := if (zwd T n po 10 0 0).1 = 10 then (false, po + (zwd T n po 10 0 0).2, 0, 0, 0) else ((zpa T n (zwd T n po 10 0 0).1 (po + (zwd T n po 10 0 0).2)).1, (zpa T n (zwd T n po 10 0 0).1 (po + (zwd T n po 10 0 0).2)).2.1, (zwd T n po 10 0 0).1, (zpa T n (zwd T n po 10 0 0).1 (po + (zwd T n po 10 0 0).2)).2.2)
theorem zpc_ok {T : Nat → Nat} {n po : Nat} (h : po ≤ n) : po ≤ (zpc T n po).2.1 ∧ (zpc T n po).2.1 ≤ n ∧ ((zpc T n po).1 = true → po + 4 ≤ (zpc T n po).2.1 ∧ (zpc T n po).2.2.1 < 10) := by
  obtain ⟨h1, h2, h3⟩ := zwd_ok (T := T) (n := n) (po := po) 10 0 0 rfl (Or.inr rfl)
  unfold zpc
  by_cases e : (zwd T n po 10 0 0).1 = 10
  · rw [if_pos e]
    exact ⟨Nat.le_add_right _ _, by show po + (zwd T n po 10 0 0).2 ≤ n; omega, fun q => by cases q⟩
  · rw [if_neg e]
    have h4 := h3 (by omega)
    have h5 := (zwl_ok _ (by omega : (zwd T n po 10 0 0).1 < 10)).2
    have h6 := zpa_ok (T := T) (n := n) (k := (zwd T n po 10 0 0).1) (po := po + (zwd T n po 10 0 0).2) (by omega)
    refine ⟨?_, h6.2, fun _ => ⟨?_, ?_⟩⟩
    · show po ≤ (zpa T n (zwd T n po 10 0 0).1 (po + (zwd T n po 10 0 0).2)).2.1
      omega
    · show po + 4 ≤ (zpa T n (zwd T n po 10 0 0).1 (po + (zwd T n po 10 0 0).2)).2.1
      omega
    · show (zwd T n po 10 0 0).1 < 10
      omega
/-- the whole buffer: where it is wrong, if it is, and its commands; at most f of them -/
def zps (T : Nat → Nat) (n : Nat) : Nat → Nat → List zCmd → Option Nat × List zCmd
  | 0, po, A => (some po, A)
  | f + 1, po, A => if (zpc T n po).1 = true then (if n ≤ (zpc T n po).2.1 then (none, A ++ [(zpc T n po).2.2]) else if T (zpc T n po).2.1 = 59 then zps T n f ((zpc T n po).2.1 + 1) (A ++ [(zpc T n po).2.2]) else (some (zpc T n po).2.1, A ++ [(zpc T n po).2.2])) else (some (zpc T n po).2.1, A)
/-! the parser: the class's -/
def zPo (a n po v c m : Nat) : zE := .inr (4, [.ref (a + 1), .int (nI n), .int (nI po), .int (nI v), .int (nI c), .ref (a + 2), .ref (a + 3), .ref (a + 4), .int (nI m)])
def PH (h : zH) (a : Nat) (T : Nat → Nat) (n po v c m : Nat) (K F S : Nat → Nat) : Prop := h a = some (zPo a n po v c m) ∧ h (a + 1) = some (zAr 1 60 T) ∧ h (a + 2) = some (zAr 0 15 K) ∧ h (a + 3) = some (zAr 0 15 F) ∧ h (a + 4) = some (zAr 0 15 S)
theorem PH.o {h : zH} {a n po v c m n2 po2 v2 c2 m2 : Nat} {T K F S : Nat → Nat} (hT : PH h a T n po v c m K F S) : PH (zu h a (zPo a n2 po2 v2 c2 m2)) a T n2 po2 v2 c2 m2 K F S := by
  obtain ⟨g1, g2, g3, g4, g5⟩ := hT
  exact ⟨zu_s, by rw [zu_n (by omega)]; exact g2, by rw [zu_n (by omega)]; exact g3, by rw [zu_n (by omega)]; exact g4, by rw [zu_n (by omega)]; exact g5⟩
theorem PH.K {h : zH} {a n po v c m : Nat} {T K F S K2 : Nat → Nat} (hT : PH h a T n po v c m K F S) : PH (zu h (a + 2) (zAr 0 15 K2)) a T n po v c m K2 F S := by
  obtain ⟨g1, g2, g3, g4, g5⟩ := hT
  exact ⟨by rw [zu_n (by omega)]; exact g1, by rw [zu_n (by omega)]; exact g2, zu_s, by rw [zu_n (by omega)]; exact g4, by rw [zu_n (by omega)]; exact g5⟩
theorem PH.F {h : zH} {a n po v c m : Nat} {T K F S F2 : Nat → Nat} (hT : PH h a T n po v c m K F S) : PH (zu h (a + 3) (zAr 0 15 F2)) a T n po v c m K F2 S := by
  obtain ⟨g1, g2, g3, g4, g5⟩ := hT
  exact ⟨by rw [zu_n (by omega)]; exact g1, by rw [zu_n (by omega)]; exact g2, by rw [zu_n (by omega)]; exact g3, zu_s, by rw [zu_n (by omega)]; exact g5⟩
theorem PH.S {h : zH} {a n po v c m : Nat} {T K F S S2 : Nat → Nat} (hT : PH h a T n po v c m K F S) : PH (zu h (a + 4) (zAr 0 15 S2)) a T n po v c m K F S2 := by
  obtain ⟨g1, g2, g3, g4, g5⟩ := hT
  exact ⟨by rw [zu_n (by omega)]; exact g1, by rw [zu_n (by omega)]; exact g2, by rw [zu_n (by omega)]; exact g3, by rw [zu_n (by omega)]; exact g4, zu_s⟩
theorem PH.T {h : zH} {a n po v c m : Nat} {T K F S T2 : Nat → Nat} (hT : PH h a T n po v c m K F S) : PH (zu h (a + 1) (zAr 1 60 T2)) a T2 n po v c m K F S := by
  obtain ⟨g1, g2, g3, g4, g5⟩ := hT
  exact ⟨by rw [zu_n (by omega)]; exact g1, zu_s, by rw [zu_n (by omega)]; exact g3, by rw [zu_n (by omega)]; exact g4, by rw [zu_n (by omega)]; exact g5⟩
theorem PH.fr {h h1 : zH} {a r w n po v c m : Nat} {T K F S : Nat → Nat} (hT : PH h a T n po v c m K F S) (hf : zfr r w h h1) (hd : a + 5 ≤ r ∨ r + w ≤ a) : PH h1 a T n po v c m K F S := by
  obtain ⟨g1, g2, g3, g4, g5⟩ := hT
  exact ⟨by rw [hf _ (by omega)]; exact g1, by rw [hf _ (by omega)]; exact g2, by rw [hf _ (by omega)]; exact g3, by rw [hf _ (by omega)]; exact g4, by rw [hf _ (by omega)]; exact g5⟩
theorem s_P_stands {Γ : zG} {l : Launch} (hl : l.stackTraces = false) {d : Nat} {h : zH} {n9 : Nat} {a n po v c m x : Nat} {T K F S : Nat → Nat} (hT : PH h a T n po v c m K F S) (hn : n ≤ 60) (hpo : po ≤ n) (hc : ∀ i, i < n → T i < 128) (hx : x < 128) : zC Γ l d mP_stands [.ref a, .int (nI x)] h n9 0 0 (zR (some (.int (nI (if po < n ∧ T po = x then 1 else 0)))) h n9) := by
  refine zC_of (ls := [some (.ref a), some (.int (nI x))]) hl (by decide +kernel) rfl (Nat.le_of_ble_eq_true rfl) rfl ?_
  by_cases e : po < n
  · have hcc := hc po e
    by_cases e2 : T po = x
    · rw [if_pos ⟨e, e2⟩]
      refine zs_aload_n (pc := 0) dP_stands_0 rfl ?_
      refine zs_get (pc := 1) dP_stands_1 fP_19 (by first | exact hT.1 | exact hT.2.1) (by rfl) ?_
      refine zs_aload_n (pc := 4) dP_stands_4 rfl ?_
      refine zs_get (pc := 5) dP_stands_5 fP_15 (by first | exact hT.1 | exact hT.2.1) (by rfl) ?_
      refine zn_icmp_ge (pc := 8) 28 dP_stands_8 rfl (by omega) (by omega) (fun h9 => absurd h9 (by omega)) (fun _ => ?_)
      refine zs_aload_n (pc := 11) dP_stands_11 rfl ?_
      refine zs_get (pc := 12) dP_stands_12 fP_9 (by first | exact hT.1 | exact hT.2.1) (by rfl) ?_
      refine zs_aload_n (pc := 15) dP_stands_15 rfl ?_
      refine zs_get (pc := 16) dP_stands_16 fP_19 (by first | exact hT.1 | exact hT.2.1) (by rfl) ?_
      refine zn_cald (pc := 19) dP_stands_19 (by first | exact hT.1 | exact hT.2.1) (by omega) (by first | decide | assumption) ?_
      refine zs_iload_n (pc := 20) dP_stands_20 rfl ?_
      refine zn_icmp_ne (pc := 21) 28 dP_stands_21 rfl (by omega) (by omega) (fun h9 => absurd h9 (fun q => q e2)) (fun _ => ?_)
      refine zs_iconst (pc := 24) dP_stands_24 zi_1 ?_
      refine zs_goto (pc := 25) 29 dP_stands_25 rfl ?_
      exact zs_iret (pc := 29) dP_stands_29 rfl rfl (by omega) (by omega) (⟨rfl, rfl, rfl⟩)
    · rw [if_neg (fun q => e2 q.2)]
      refine zs_aload_n (pc := 0) dP_stands_0 rfl ?_
      refine zs_get (pc := 1) dP_stands_1 fP_19 (by first | exact hT.1 | exact hT.2.1) (by rfl) ?_
      refine zs_aload_n (pc := 4) dP_stands_4 rfl ?_
      refine zs_get (pc := 5) dP_stands_5 fP_15 (by first | exact hT.1 | exact hT.2.1) (by rfl) ?_
      refine zn_icmp_ge (pc := 8) 28 dP_stands_8 rfl (by omega) (by omega) (fun h9 => absurd h9 (by omega)) (fun _ => ?_)
      refine zs_aload_n (pc := 11) dP_stands_11 rfl ?_
      refine zs_get (pc := 12) dP_stands_12 fP_9 (by first | exact hT.1 | exact hT.2.1) (by rfl) ?_
      refine zs_aload_n (pc := 15) dP_stands_15 rfl ?_
      refine zs_get (pc := 16) dP_stands_16 fP_19 (by first | exact hT.1 | exact hT.2.1) (by rfl) ?_
      refine zn_cald (pc := 19) dP_stands_19 (by first | exact hT.1 | exact hT.2.1) (by omega) (by first | decide | assumption) ?_
      refine zs_iload_n (pc := 20) dP_stands_20 rfl ?_
      refine zn_icmp_ne (pc := 21) 28 dP_stands_21 rfl (by omega) (by omega) (fun _ => ?_) (fun h9 => absurd h9 (e2))
      refine zs_iconst (pc := 28) dP_stands_28 zi_0 ?_
      exact zs_iret (pc := 29) dP_stands_29 rfl rfl (by omega) (by omega) (⟨rfl, rfl, rfl⟩)
  · rw [if_neg (fun q => e q.1)]
    refine zs_aload_n (pc := 0) dP_stands_0 rfl ?_
    refine zs_get (pc := 1) dP_stands_1 fP_19 (by first | exact hT.1 | exact hT.2.1) (by rfl) ?_
    refine zs_aload_n (pc := 4) dP_stands_4 rfl ?_
    refine zs_get (pc := 5) dP_stands_5 fP_15 (by first | exact hT.1 | exact hT.2.1) (by rfl) ?_
    refine zn_icmp_ge (pc := 8) 28 dP_stands_8 rfl (by omega) (by omega) (fun _ => ?_) (fun h9 => absurd h9 (by omega))
    refine zs_iconst (pc := 28) dP_stands_28 zi_0 ?_
    exact zs_iret (pc := 29) dP_stands_29 rfl rfl (by omega) (by omega) (⟨rfl, rfl, rfl⟩)
theorem s_P_digitStands {Γ : zG} {l : Launch} (hl : l.stackTraces = false) {d : Nat} {h : zH} {n9 : Nat} {a n po v c m : Nat} {T K F S : Nat → Nat} (hT : PH h a T n po v c m K F S) (hn : n ≤ 60) (hpo : po ≤ n) (hc : ∀ i, i < n → T i < 128) : zC Γ l d mP_digitStands [.ref a] h n9 0 0 (zR (some (.int (nI (if po < n ∧ 48 ≤ T po ∧ T po ≤ 57 then 1 else 0)))) h n9) := by
  refine zC_of (ls := [some (.ref a)]) hl (by decide +kernel) rfl (Nat.le_of_ble_eq_true rfl) rfl ?_
  by_cases e : po < n
  · have hcc := hc po e
    by_cases e2 : 48 ≤ T po
    · by_cases e3 : T po ≤ 57
      · rw [if_pos ⟨e, e2, e3⟩]
        refine zs_aload_n (pc := 0) dP_digitStands_0 rfl ?_
        refine zs_get (pc := 1) dP_digitStands_1 fP_19 (by first | exact hT.1 | exact hT.2.1) (by rfl) ?_
        refine zs_aload_n (pc := 4) dP_digitStands_4 rfl ?_
        refine zs_get (pc := 5) dP_digitStands_5 fP_15 (by first | exact hT.1 | exact hT.2.1) (by rfl) ?_
        refine zn_icmp_ge (pc := 8) 43 dP_digitStands_8 rfl (by omega) (by omega) (fun h9 => absurd h9 (by omega)) (fun _ => ?_)
        refine zs_aload_n (pc := 11) dP_digitStands_11 rfl ?_
        refine zs_get (pc := 12) dP_digitStands_12 fP_9 (by first | exact hT.1 | exact hT.2.1) (by rfl) ?_
        refine zs_aload_n (pc := 15) dP_digitStands_15 rfl ?_
        refine zs_get (pc := 16) dP_digitStands_16 fP_19 (by first | exact hT.1 | exact hT.2.1) (by rfl) ?_
        refine zn_cald (pc := 19) dP_digitStands_19 (by first | exact hT.1 | exact hT.2.1) (by omega) (by first | decide | assumption) ?_
        refine zs_bipush (pc := 20) dP_digitStands_20 (zi_b 48 (by decide)) ?_
        refine zn_icmp_lt (pc := 22) 43 dP_digitStands_22 rfl (by omega) (by omega) (fun h9 => absurd h9 (by omega)) (fun _ => ?_)
        refine zs_aload_n (pc := 25) dP_digitStands_25 rfl ?_
        refine zs_get (pc := 26) dP_digitStands_26 fP_9 (by first | exact hT.1 | exact hT.2.1) (by rfl) ?_
        refine zs_aload_n (pc := 29) dP_digitStands_29 rfl ?_
        refine zs_get (pc := 30) dP_digitStands_30 fP_19 (by first | exact hT.1 | exact hT.2.1) (by rfl) ?_
        refine zn_cald (pc := 33) dP_digitStands_33 (by first | exact hT.1 | exact hT.2.1) (by omega) (by first | decide | assumption) ?_
        refine zs_bipush (pc := 34) dP_digitStands_34 (zi_b 57 (by decide)) ?_
        refine zn_icmp_gt (pc := 36) 43 dP_digitStands_36 rfl (by omega) (by omega) (fun h9 => absurd h9 (by omega)) (fun _ => ?_)
        refine zs_iconst (pc := 39) dP_digitStands_39 zi_1 ?_
        refine zs_goto (pc := 40) 44 dP_digitStands_40 rfl ?_
        exact zs_iret (pc := 44) dP_digitStands_44 rfl rfl (by omega) (by omega) (⟨rfl, rfl, rfl⟩)
      · rw [if_neg (fun q => e3 q.2.2)]
        refine zs_aload_n (pc := 0) dP_digitStands_0 rfl ?_
        refine zs_get (pc := 1) dP_digitStands_1 fP_19 (by first | exact hT.1 | exact hT.2.1) (by rfl) ?_
        refine zs_aload_n (pc := 4) dP_digitStands_4 rfl ?_
        refine zs_get (pc := 5) dP_digitStands_5 fP_15 (by first | exact hT.1 | exact hT.2.1) (by rfl) ?_
        refine zn_icmp_ge (pc := 8) 43 dP_digitStands_8 rfl (by omega) (by omega) (fun h9 => absurd h9 (by omega)) (fun _ => ?_)
        refine zs_aload_n (pc := 11) dP_digitStands_11 rfl ?_
        refine zs_get (pc := 12) dP_digitStands_12 fP_9 (by first | exact hT.1 | exact hT.2.1) (by rfl) ?_
        refine zs_aload_n (pc := 15) dP_digitStands_15 rfl ?_
        refine zs_get (pc := 16) dP_digitStands_16 fP_19 (by first | exact hT.1 | exact hT.2.1) (by rfl) ?_
        refine zn_cald (pc := 19) dP_digitStands_19 (by first | exact hT.1 | exact hT.2.1) (by omega) (by first | decide | assumption) ?_
        refine zs_bipush (pc := 20) dP_digitStands_20 (zi_b 48 (by decide)) ?_
        refine zn_icmp_lt (pc := 22) 43 dP_digitStands_22 rfl (by omega) (by omega) (fun h9 => absurd h9 (by omega)) (fun _ => ?_)
        refine zs_aload_n (pc := 25) dP_digitStands_25 rfl ?_
        refine zs_get (pc := 26) dP_digitStands_26 fP_9 (by first | exact hT.1 | exact hT.2.1) (by rfl) ?_
        refine zs_aload_n (pc := 29) dP_digitStands_29 rfl ?_
        refine zs_get (pc := 30) dP_digitStands_30 fP_19 (by first | exact hT.1 | exact hT.2.1) (by rfl) ?_
        refine zn_cald (pc := 33) dP_digitStands_33 (by first | exact hT.1 | exact hT.2.1) (by omega) (by first | decide | assumption) ?_
        refine zs_bipush (pc := 34) dP_digitStands_34 (zi_b 57 (by decide)) ?_
        refine zn_icmp_gt (pc := 36) 43 dP_digitStands_36 rfl (by omega) (by omega) (fun _ => ?_) (fun h9 => absurd h9 (by omega))
        refine zs_iconst (pc := 43) dP_digitStands_43 zi_0 ?_
        exact zs_iret (pc := 44) dP_digitStands_44 rfl rfl (by omega) (by omega) (⟨rfl, rfl, rfl⟩)
    · rw [if_neg (fun q => e2 q.2.1)]
      refine zs_aload_n (pc := 0) dP_digitStands_0 rfl ?_
      refine zs_get (pc := 1) dP_digitStands_1 fP_19 (by first | exact hT.1 | exact hT.2.1) (by rfl) ?_
      refine zs_aload_n (pc := 4) dP_digitStands_4 rfl ?_
      refine zs_get (pc := 5) dP_digitStands_5 fP_15 (by first | exact hT.1 | exact hT.2.1) (by rfl) ?_
      refine zn_icmp_ge (pc := 8) 43 dP_digitStands_8 rfl (by omega) (by omega) (fun h9 => absurd h9 (by omega)) (fun _ => ?_)
      refine zs_aload_n (pc := 11) dP_digitStands_11 rfl ?_
      refine zs_get (pc := 12) dP_digitStands_12 fP_9 (by first | exact hT.1 | exact hT.2.1) (by rfl) ?_
      refine zs_aload_n (pc := 15) dP_digitStands_15 rfl ?_
      refine zs_get (pc := 16) dP_digitStands_16 fP_19 (by first | exact hT.1 | exact hT.2.1) (by rfl) ?_
      refine zn_cald (pc := 19) dP_digitStands_19 (by first | exact hT.1 | exact hT.2.1) (by omega) (by first | decide | assumption) ?_
      refine zs_bipush (pc := 20) dP_digitStands_20 (zi_b 48 (by decide)) ?_
      refine zn_icmp_lt (pc := 22) 43 dP_digitStands_22 rfl (by omega) (by omega) (fun _ => ?_) (fun h9 => absurd h9 (by omega))
      refine zs_iconst (pc := 43) dP_digitStands_43 zi_0 ?_
      exact zs_iret (pc := 44) dP_digitStands_44 rfl rfl (by omega) (by omega) (⟨rfl, rfl, rfl⟩)
  · rw [if_neg (fun q => e q.1)]
    refine zs_aload_n (pc := 0) dP_digitStands_0 rfl ?_
    refine zs_get (pc := 1) dP_digitStands_1 fP_19 (by first | exact hT.1 | exact hT.2.1) (by rfl) ?_
    refine zs_aload_n (pc := 4) dP_digitStands_4 rfl ?_
    refine zs_get (pc := 5) dP_digitStands_5 fP_15 (by first | exact hT.1 | exact hT.2.1) (by rfl) ?_
    refine zn_icmp_ge (pc := 8) 43 dP_digitStands_8 rfl (by omega) (by omega) (fun _ => ?_) (fun h9 => absurd h9 (by omega))
    refine zs_iconst (pc := 43) dP_digitStands_43 zi_0 ?_
    exact zs_iret (pc := 44) dP_digitStands_44 rfl rfl (by omega) (by omega) (⟨rfl, rfl, rfl⟩)
/-- after a number was read -/
def zNq (a : Nat) (h : zH) (n9 : Nat) (T : Nat → Nat) (n m : Nat) (K F S : Nat → Nat) (o : Bool × Nat × Nat × Nat) : zQ := fun oc h1 n1 => oc = .inl (some (.int (nI (zb o.1)))) ∧ n1 = n9 ∧ zfr a 5 h h1 ∧ PH h1 a T n o.2.1 o.2.2.2 o.2.2.1 m K F S
theorem lp_P_readNumber {Γ : zG} {l : Launch} (hl : l.stackTraces = false) {d : Nat} (hd : 1 ≤ d) {h : zH} {n9 : Nat} {a n m mo : Nat} {T K F S : Nat → Nat} (hn : n ≤ 60) (hc : ∀ i, i < n → T i < 128) (hmo : mo ≤ 3) : ∀ f c, f + c = mo → ∀ (po v : Nat) (h1 : zH), po ≤ n → PH h1 a T n po v c m K F S → zfr a 5 h h1 → Z Γ l mP_readNumber d 0 0 (zFin Γ (zNq a h n9 T n m K F S (decide (0 < (zrd T n f po c v).2.1), zrd T n f po c v)) 0 0) 31 [some (.ref a), some (.int (nI mo))] [] h1 n9 0 0 := by
  have fin : ∀ (po v c : Nat) (h1 : zH), c ≤ 3 → PH h1 a T n po v c m K F S → zfr a 5 h h1 → Z Γ l mP_readNumber d 0 0 (zFin Γ (zNq a h n9 T n m K F S (decide (0 < c), po, c, v)) 0 0) 93 [some (.ref a), some (.int (nI mo))] [] h1 n9 0 0 := by
    intro po v c h1 hc3 hT hfr
    by_cases e : 0 < c
    · refine zs_aload_n (pc := 93) dP_readNumber_93 rfl ?_
      refine zs_get (pc := 94) dP_readNumber_94 fP_25 (by first | exact hT.1 | exact hT.2.1 | exact zu_s | exact hT2.1 | exact hT2.2.1) (by rfl) ?_
      refine zn_if_le (pc := 97) 104 dP_readNumber_97 rfl (by omega) (fun h9 => absurd h9 (by omega)) (fun _ => ?_)
      refine zs_iconst (pc := 100) dP_readNumber_100 zi_1 ?_
      refine zs_goto (pc := 101) 105 dP_readNumber_101 rfl ?_
      exact zs_iret (pc := 105) dP_readNumber_105 rfl rfl (by omega) (by omega) (⟨by show _ = Sum.inl (some (Value.int (nI (zb (decide (0 < c)))))); rw [decide_eq_true e]; rfl, rfl, hfr, hT⟩)
    · refine zs_aload_n (pc := 93) dP_readNumber_93 rfl ?_
      refine zs_get (pc := 94) dP_readNumber_94 fP_25 (by first | exact hT.1 | exact hT.2.1 | exact zu_s | exact hT2.1 | exact hT2.2.1) (by rfl) ?_
      refine zn_if_le (pc := 97) 104 dP_readNumber_97 rfl (by omega) (fun _ => ?_) (fun h9 => absurd h9 (by omega))
      refine zs_iconst (pc := 104) dP_readNumber_104 zi_0 ?_
      exact zs_iret (pc := 105) dP_readNumber_105 rfl rfl (by omega) (by omega) (⟨by show _ = Sum.inl (some (Value.int (nI (zb (decide (0 < c)))))); rw [decide_eq_false e]; rfl, rfl, hfr, hT⟩)
  intro f
  induction f with
  | zero =>
    intro c hf po v h1 hpo hT hfr
    refine zs_aload_n (pc := 31) dP_readNumber_31 rfl ?_
    refine zs_get (pc := 32) dP_readNumber_32 fP_25 (by first | exact hT.1 | exact hT.2.1 | exact zu_s | exact hT2.1 | exact hT2.2.1) (by rfl) ?_
    refine zs_iload_n (pc := 35) dP_readNumber_35 rfl ?_
    refine zn_icmp_ge (pc := 36) 93 dP_readNumber_36 rfl (by omega) (by omega) (fun _ => ?_) (fun h9 => absurd h9 (by omega))
    exact fin po v c h1 (by omega) hT hfr
  | succ f ih =>
    intro c hf po v h1 hpo hT hfr
    by_cases e : po < n ∧ 48 ≤ T po ∧ T po ≤ 57
    · have hz := ih (c + 1) (by omega) (po + 1) (10 * v + (T po - 48)) _ (by omega) (hT.o (n2 := n) (po2 := po + 1) (v2 := 10 * v + (T po - 48)) (c2 := c + 1) (m2 := m)) (hfr.tr (zfr.u (by omega) (by omega)))
      have ez : zrd T n (f + 1) po c v = zrd T n f (po + 1) (c + 1) (10 * v + (T po - 48)) := if_pos e
      rw [ez]
      have hT2 := hT.o (n2 := n) (po2 := po) (v2 := 10 * v + (T po - 48)) (c2 := c) (m2 := m)
      refine zs_aload_n (pc := 31) dP_readNumber_31 rfl ?_
      refine zs_get (pc := 32) dP_readNumber_32 fP_25 (by first | exact hT.1 | exact hT.2.1 | exact zu_s | exact hT2.1 | exact hT2.2.1) (by rfl) ?_
      refine zs_iload_n (pc := 35) dP_readNumber_35 rfl ?_
      refine zn_icmp_ge (pc := 36) 93 dP_readNumber_36 rfl (by omega) (by omega) (fun h9 => absurd h9 (by omega)) (fun _ => ?_)
      refine zs_aload_n (pc := 39) dP_readNumber_39 rfl ?_
      refine zcV1_0 (pc := 40) (d2 := d - 1) (s_P_digitStands hl hT hn hpo hc) dP_readNumber_40 kP_111 mdP_digitStands miP_digitStands mvP_digitStands rfl (by first | exact hT.1 | exact hT2.1 | exact zu_s) rfl (Nat.le_of_ble_eq_true rfl) (by omega) (by omega) (by omega) ?_
      rw [if_pos e]
      refine zn_if_eq (pc := 43) 93 dP_readNumber_43 rfl (by omega) (fun h9 => absurd h9 (by decide)) (fun _ => ?_)
      refine zs_aload_n (pc := 46) dP_readNumber_46 rfl ?_
      refine zs_bipush (pc := 47) dP_readNumber_47 (zi_b 10 (by decide)) ?_
      refine zs_aload_n (pc := 49) dP_readNumber_49 rfl ?_
      refine zs_get (pc := 50) dP_readNumber_50 fP_22 (by first | exact hT.1 | exact hT.2.1 | exact zu_s | exact hT2.1 | exact hT2.2.1) (by rfl) ?_
      refine zn_imul (pc := 53) dP_readNumber_53 ?_
      refine zs_aload_n (pc := 54) dP_readNumber_54 rfl ?_
      refine zs_get (pc := 55) dP_readNumber_55 fP_9 (by first | exact hT.1 | exact hT.2.1 | exact zu_s | exact hT2.1 | exact hT2.2.1) (by rfl) ?_
      refine zs_aload_n (pc := 58) dP_readNumber_58 rfl ?_
      refine zs_get (pc := 59) dP_readNumber_59 fP_19 (by first | exact hT.1 | exact hT.2.1 | exact zu_s | exact hT2.1 | exact hT2.2.1) (by rfl) ?_
      refine zn_cald (pc := 62) dP_readNumber_62 (by first | exact hT.1 | exact hT.2.1 | exact zu_s | exact hT2.1 | exact hT2.2.1) (by omega) (by first | decide | assumption) ?_
      refine zs_bipush (pc := 63) dP_readNumber_63 (zi_b 48 (by decide)) ?_
      refine zn_isub (pc := 65) dP_readNumber_65 (by omega) ?_
      refine zn_iadd (pc := 66) dP_readNumber_66 ?_
      refine zs_put (pc := 67) (fs2 := [_, _, _, _, _, _, _, _, _]) dP_readNumber_67 fP_22 (by first | exact hT.1 | exact hT.2.1 | exact zu_s | exact hT2.1 | exact hT2.2.1) (by rfl) (by rfl) (by exact Nat.le_of_ble_eq_true rfl) (by rfl) ?_
      refine zs_aload_n (pc := 70) dP_readNumber_70 rfl ?_
      refine zs_dup (pc := 71) dP_readNumber_71 rfl ?_
      refine zs_get (pc := 72) dP_readNumber_72 fP_25 (by first | exact hT.1 | exact hT.2.1 | exact zu_s | exact hT2.1 | exact hT2.2.1) (by rfl) ?_
      refine zs_iconst (pc := 75) dP_readNumber_75 zi_1 ?_
      refine zn_iadd (pc := 76) dP_readNumber_76 ?_
      refine zs_putU (pc := 77) (fs2 := [_, _, _, _, _, _, _, _, _]) dP_readNumber_77 fP_25 (by rfl) (by rfl) (by exact Nat.le_of_ble_eq_true rfl) (by rfl) ?_
      refine zs_aload_n (pc := 80) dP_readNumber_80 rfl ?_
      refine zs_dup (pc := 81) dP_readNumber_81 rfl ?_
      refine zs_get (pc := 82) dP_readNumber_82 fP_19 (by first | exact hT.1 | exact hT.2.1 | exact zu_s | exact hT2.1 | exact hT2.2.1) (by rfl) ?_
      refine zs_iconst (pc := 85) dP_readNumber_85 zi_1 ?_
      refine zn_iadd (pc := 86) dP_readNumber_86 ?_
      refine zs_putU (pc := 87) (fs2 := [_, _, _, _, _, _, _, _, _]) dP_readNumber_87 fP_19 (by rfl) (by rfl) (by exact Nat.le_of_ble_eq_true rfl) (by rfl) ?_
      refine zs_goto (pc := 90) 31 dP_readNumber_90 rfl ?_
      exact hz
    · have ez : zrd T n (f + 1) po c v = (po, c, v) := if_neg e
      rw [ez]
      refine zs_aload_n (pc := 31) dP_readNumber_31 rfl ?_
      refine zs_get (pc := 32) dP_readNumber_32 fP_25 (by first | exact hT.1 | exact hT.2.1 | exact zu_s | exact hT2.1 | exact hT2.2.1) (by rfl) ?_
      refine zs_iload_n (pc := 35) dP_readNumber_35 rfl ?_
      refine zn_icmp_ge (pc := 36) 93 dP_readNumber_36 rfl (by omega) (by omega) (fun h9 => absurd h9 (by omega)) (fun _ => ?_)
      refine zs_aload_n (pc := 39) dP_readNumber_39 rfl ?_
      refine zcV1_0 (pc := 40) (d2 := d - 1) (s_P_digitStands hl hT hn hpo hc) dP_readNumber_40 kP_111 mdP_digitStands miP_digitStands mvP_digitStands rfl (by first | exact hT.1 | exact hT2.1 | exact zu_s) rfl (Nat.le_of_ble_eq_true rfl) (by omega) (by omega) (by omega) ?_
      rw [if_neg e]
      refine zn_if_eq (pc := 43) 93 dP_readNumber_43 rfl (by omega) (fun _ => ?_) (fun h9 => absurd h9 (by decide))
      exact fin po v c h1 (by omega) hT hfr
theorem s_P_readNumber {Γ : zG} {l : Launch} (hl : l.stackTraces = false) {d : Nat} (hd : 1 ≤ d) {h : zH} {n9 : Nat} {a n po v c m mo : Nat} {T K F S : Nat → Nat} (hT : PH h a T n po v c m K F S) (hn : n ≤ 60) (hpo : po ≤ n) (hc : ∀ i, i < n → T i < 128) (hmo : mo ≤ 3) : zC Γ l d mP_readNumber [.ref a, .int (nI mo)] h n9 0 0 (zNq a h n9 T n m K F S (zrn T n mo po)) := by
  have hT2 := hT.o (n2 := n) (po2 := po) (v2 := 0) (c2 := 0) (m2 := m)
  have hT3 := hT.o (n2 := n) (po2 := po + 1) (v2 := 0) (c2 := 0) (m2 := m)
  unfold zrn
  refine zC_of (ls := [some (.ref a), some (.int (nI mo))]) hl (by decide +kernel) rfl (Nat.le_of_ble_eq_true rfl) rfl ?_
  refine zs_aload_n (pc := 0) dP_readNumber_0 rfl ?_
  refine zs_iconst (pc := 1) dP_readNumber_1 zi_0 ?_
  refine zs_put (pc := 2) (fs2 := [_, _, _, _, _, _, _, _, _]) dP_readNumber_2 fP_22 (by first | exact hT.1 | exact hT.2.1 | exact zu_s | exact hT2.1 | exact hT2.2.1) (by rfl) (by rfl) (by exact Nat.le_of_ble_eq_true rfl) (by rfl) ?_
  refine zs_aload_n (pc := 5) dP_readNumber_5 rfl ?_
  refine zs_iconst (pc := 6) dP_readNumber_6 zi_0 ?_
  refine zs_putU (pc := 7) (fs2 := [_, _, _, _, _, _, _, _, _]) dP_readNumber_7 fP_25 (by rfl) (by rfl) (by exact Nat.le_of_ble_eq_true rfl) (by rfl) ?_
  refine zs_aload_n (pc := 10) dP_readNumber_10 rfl ?_
  refine zs_bipush (pc := 11) dP_readNumber_11 (zi_b 32 (by decide)) ?_
  refine zcV1_1 (pc := 13) (d2 := d - 1) (s_P_stands hl hT2 hn hpo hc (by decide)) dP_readNumber_13 kP_45 mdP_stands miP_stands mvP_stands rfl (by first | exact hT.1 | exact hT2.1 | exact zu_s) rfl (Nat.le_of_ble_eq_true rfl) (by omega) (by omega) (by omega) ?_
  by_cases e : po < n ∧ T po = 32
  · rw [if_pos e, if_pos e]
    refine zn_if_ne (pc := 16) 21 dP_readNumber_16 rfl (by omega) (fun _ => ?_) (fun h9 => absurd h9 (by decide))
    refine zs_aload_n (pc := 21) dP_readNumber_21 rfl ?_
    refine zs_dup (pc := 22) dP_readNumber_22 rfl ?_
    refine zs_get (pc := 23) dP_readNumber_23 fP_19 (by first | exact hT.1 | exact hT.2.1 | exact zu_s | exact hT2.1 | exact hT2.2.1) (by rfl) ?_
    refine zs_iconst (pc := 26) dP_readNumber_26 zi_1 ?_
    refine zn_iadd (pc := 27) dP_readNumber_27 ?_
    refine zs_putU (pc := 28) (fs2 := [_, _, _, _, _, _, _, _, _]) dP_readNumber_28 fP_19 (by rfl) (by rfl) (by exact Nat.le_of_ble_eq_true rfl) (by rfl) ?_
    exact lp_P_readNumber hl hd hn hc hmo mo 0 rfl (po + 1) 0 _ (by omega) hT3 (zfr.u (by omega) (by omega))
  · rw [if_neg e, if_neg e]
    refine zn_if_ne (pc := 16) 21 dP_readNumber_16 rfl (by omega) (fun h9 => absurd h9 (by decide)) (fun _ => ?_)
    refine zs_iconst (pc := 19) dP_readNumber_19 zi_0 ?_
    exact zs_iret (pc := 20) dP_readNumber_20 rfl rfl (by omega) (by omega) (⟨rfl, rfl, zfr.u (by omega) (by omega), hT2⟩)

