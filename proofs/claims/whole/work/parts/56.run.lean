/-! programs: what reading the buffer can say -/
theorem zps_ok {T : Nat → Nat} {n : Nat} : ∀ f po A, po ≤ n → (∀ x, x ∈ A → x.1 < 10) → (∀ p, (zps T n f po A).1 = some p → p ≤ n) ∧ (∀ x, x ∈ (zps T n f po A).2 → x.1 < 10) ∧ (zps T n f po A).2.length ≤ f + A.length := by
  intro f
  induction f with
  | zero => exact fun po A hpo hA => ⟨fun p hp => by cases hp; exact hpo, hA, by show A.length ≤ _; omega⟩
  | succ f ih =>
    intro po A hpo hA
    obtain ⟨h1, h2, h3⟩ := zpc_ok (T := T) hpo
    unfold zps
    by_cases e1 : (zpc T n po).1 = true
    · rw [if_pos e1]
      obtain ⟨h4, h5⟩ := h3 e1
      have hA2 : ∀ x, x ∈ A ++ [(zpc T n po).2.2] → x.1 < 10 := fun x hx => by
        rcases List.mem_append.mp hx with q | q
        · exact hA x q
        · rw [List.mem_singleton.mp q]; exact h5
      have hl : (A ++ [(zpc T n po).2.2]).length = A.length + 1 := by rw [List.length_append]; rfl
      by_cases e2 : n ≤ (zpc T n po).2.1
      · rw [if_pos e2]
        exact ⟨fun p hp => (by cases hp), hA2, by show (A ++ [(zpc T n po).2.2]).length ≤ _; omega⟩
      · rw [if_neg e2]
        by_cases e3 : T (zpc T n po).2.1 = 59
        · rw [if_pos e3]
          obtain ⟨g1, g2, g3⟩ := ih ((zpc T n po).2.1 + 1) (A ++ [(zpc T n po).2.2]) (by omega) hA2
          exact ⟨g1, g2, by omega⟩
        · rw [if_neg e3]
          exact ⟨fun p hp => (by cases hp; exact h2), hA2, by show (A ++ [(zpc T n po).2.2]).length ≤ _; omega⟩
    · rw [if_neg e1]
      exact ⟨fun p hp => (by cases hp; exact h2), hA, by show A.length ≤ _; omega⟩
/-- the commands one behind another, up to the first that is refused -/
def zex : List zCmd → Nat → (Nat → Nat) → Option Nat × (Nat → Nat)
  | [], _, g => (none, g)
  | x :: A, i, g => if (zdo g x.1 (nI x.2.1) (nI x.2.2)).1 = 0 then zex A (i + 1) (zdo g x.1 (nI x.2.1) (nI x.2.2)).2.2 else (some i, g)
theorem zex_I {B : Nat} : ∀ (A : List zCmd) (i : Nat) (g : Nat → Nat), (∀ x, x ∈ A → x.1 < 10) → IG B g → IG (B + 20 * A.length) (zex A i g).2 := by
  intro A
  induction A generalizing B with
  | nil => exact fun i g _ hI => hI
  | cons x A ih =>
    intro i g hx hI
    have hl : (x :: A).length = A.length + 1 := rfl
    unfold zex
    split
    · have h1 := ih (B := B + 20) (i + 1) _ (fun y hy => hx y (List.mem_cons_of_mem _ hy)) (hI.do (Nat.le_of_lt_succ (hx x List.mem_cons_self)) (nI x.2.1) (nI x.2.2))
      exact h1.mono (by omega)
    · exact hI.mono (by omega)
theorem zex_lt : ∀ (A : List zCmd) (i : Nat) (g : Nat → Nat) (p : Nat), (zex A i g).1 = some p → p < i + A.length := by
  intro A
  induction A with
  | nil => intro i g p h; cases h
  | cons x A ih =>
    intro i g p h
    have hl : (x :: A).length = A.length + 1 := rfl
    unfold zex at h
    split at h
    · have := ih _ _ _ h
      omega
    · cases h
      omega
def zrunO (g T : Nat → Nat) (n : Nat) (er fl : Option Nat) : (Nat × Int32) × (Nat → Nat) × Option Nat × Option Nat := match zps T n 15 0 [] with
  | (some p, _) => ((1, -1), g, some p, fl)
  | (none, A) => match zex A 0 g with
    | (some i, _) => ((2, -1), g, er, some i)
    | (none, g2) => ((0, nI A.length), g2, er, fl)
theorem zrunO_p {g T : Nat → Nat} {n p : Nat} {er fl : Option Nat} {A : List zCmd} (h : zps T n 15 0 [] = (some p, A)) : zrunO g T n er fl = ((1, -1), g, some p, fl) := by
  unfold zrunO
  rw [h]
theorem zrunO_f {g g2 T : Nat → Nat} {n i : Nat} {er fl : Option Nat} {A : List zCmd} (h : zps T n 15 0 [] = (none, A)) (h2 : zex A 0 g = (some i, g2)) : zrunO g T n er fl = ((2, -1), g, er, some i) := by
  unfold zrunO
  rw [h]
  dsimp only
  rw [h2]
theorem zrunO_k {g g2 T : Nat → Nat} {n : Nat} {er fl : Option Nat} {A : List zCmd} (h : zps T n 15 0 [] = (none, A)) (h2 : zex A 0 g = (none, g2)) : zrunO g T n er fl = ((0, nI A.length), g2, er, fl) := by
  unfold zrunO
  rw [h]
  dsimp only
  rw [h2]
theorem lp_X_firstFailing {Γ : zG} {l : Launch} (hl : l.stackTraces = false) {d : Nat} (hd : 6 ≤ d) {h : zH} {n : Nat} {x st B po v c0 np : Nat} {sv : Bool} {er fl : Option Nat} {T K F S : Nat → Nat} {A : List zCmd} (hx : h x = some (zXo x st sv er fl)) (hP : PH h (x + 471) T np po v c0 A.length K F S) (hcm : zCm K F S A) (hA : ∀ x, x ∈ A → x.1 < 10) (hlen : A.length ≤ 15) (hB : B + 300 < 2 ^ 20) : ∀ R (pre : List zCmd) (g9 : Nat → Nat) (h9 : zH) (x2 : Option Value), A = pre ++ R → CR h9 (x + 1) g9 → IG (B + 20 * pre.length) g9 → zfr (x + 1) 42 h h9 → Z Γ l mX_firstFailing d 0 0 (zFin Γ (fun o h1 n1 => o = .inl (some (.int (zer (zex R pre.length g9).1))) ∧ n1 = n ∧ zfr (x + 1) 42 h h1 ∧ CR h1 (x + 1) (zex R pre.length g9).2) 0 0) 2 [some (.ref x), some (.int (nI pre.length)), x2] [] h9 n 0 0 := by
  intro R
  induction R with
  | nil =>
    intro pre g9 h9 x2 hpre hR hI hf
    have hlp : A.length = pre.length := by rw [hpre, List.append_nil]
    have hx9 : h9 x = some (zXo x st sv er fl) := by rw [hf _ (by omega)]; exact hx
    have hP9 := hP.fr hf (by omega)
    refine zs_iload_n (pc := 2) dX_firstFailing_2 rfl ?_
    refine zs_aload_n (pc := 3) dX_firstFailing_3 rfl ?_
    refine zs_get (pc := 4) dX_firstFailing_4 fX_43 (by first | exact hx9 | exact hP9.1 | exact hP9.2.2.1 | exact hP9.2.2.2.1 | exact hP9.2.2.2.2) (by rfl) ?_
    refine zs_get (pc := 7) dX_firstFailing_7 fX_356 (by first | exact hx9 | exact hP9.1 | exact hP9.2.2.1 | exact hP9.2.2.2.1 | exact hP9.2.2.2.2) (by rfl) ?_
    refine zn_icmp_ge (pc := 10) 60 dX_firstFailing_10 rfl (by omega) (by omega) (fun _ => ?_) (fun h9 => absurd h9 (by omega))
    refine zs_iconst (pc := 60) dX_firstFailing_60 zi_m1 ?_
    exact zs_iret (pc := 61) dX_firstFailing_61 rfl rfl (by omega) (by omega) (⟨rfl, rfl, hf, hR⟩)
  | cons y R ih =>
    intro pre g9 h9 x2 hpre hR hI hf
    have hlp : A.length = pre.length + (R.length + 1) := by rw [hpre, List.length_append]; rfl
    have hx9 : h9 x = some (zXo x st sv er fl) := by rw [hf _ (by omega)]; exact hx
    have hP9 := hP.fr hf (by omega)
    obtain ⟨p9, Q9, hC9, hp9, hA9⟩ := id hR
    have hc9 := hC9.1
    have hy := hcm pre.length (by omega)
    rw [hpre, List.getElem?_append_right (Nat.le_refl _), Nat.sub_self] at hy
    have hy2 : y = (K pre.length, F pre.length, S pre.length) := Option.some.inj hy
    have hy3 := hA y (by rw [hpre]; exact List.mem_append_right _ List.mem_cons_self)
    have hk : K pre.length ≤ 9 := by rw [hy2] at hy3; exact Nat.le_of_lt_succ hy3
    have hI2 := hI.do hk (nI (F pre.length)) (nI (S pre.length))
    have hab := zdo_ans hI (by omega) hk (nI (F pre.length)) (nI (S pre.length))
    obtain ⟨hlim, hsame⟩ := zdo_lim (g := g9) hk (nI (F pre.length)) (nI (S pre.length))
    have hz : zex (y :: R) pre.length g9 = if (zdo g9 (K pre.length) (nI (F pre.length)) (nI (S pre.length))).1 = 0 then zex R (pre.length + 1) (zdo g9 (K pre.length) (nI (F pre.length)) (nI (S pre.length))).2.2 else (some pre.length, g9) := by rw [hy2]; rfl
    rw [hz]
    refine zs_iload_n (pc := 2) dX_firstFailing_2 rfl ?_
    refine zs_aload_n (pc := 3) dX_firstFailing_3 rfl ?_
    refine zs_get (pc := 4) dX_firstFailing_4 fX_43 (by first | exact hx9 | exact hP9.1 | exact hP9.2.2.1 | exact hP9.2.2.2.1 | exact hP9.2.2.2.2) (by rfl) ?_
    refine zs_get (pc := 7) dX_firstFailing_7 fX_356 (by first | exact hx9 | exact hP9.1 | exact hP9.2.2.1 | exact hP9.2.2.2.1 | exact hP9.2.2.2.2) (by rfl) ?_
    refine zn_icmp_ge (pc := 10) 60 dX_firstFailing_10 rfl (by omega) (by omega) (fun h9 => absurd h9 (by omega)) (fun _ => ?_)
    refine zs_aload_n (pc := 13) dX_firstFailing_13 rfl ?_
    refine zs_get (pc := 14) dX_firstFailing_14 fX_12 (by first | exact hx9 | exact hP9.1 | exact hP9.2.2.1 | exact hP9.2.2.2.1 | exact hP9.2.2.2.2) (by rfl) ?_
    refine zs_aload_n (pc := 17) dX_firstFailing_17 rfl ?_
    refine zs_get (pc := 18) dX_firstFailing_18 fX_43 (by first | exact hx9 | exact hP9.1 | exact hP9.2.2.1 | exact hP9.2.2.2.1 | exact hP9.2.2.2.2) (by rfl) ?_
    refine zs_get (pc := 21) dX_firstFailing_21 fX_359 (by first | exact hx9 | exact hP9.1 | exact hP9.2.2.1 | exact hP9.2.2.2.1 | exact hP9.2.2.2.2) (by rfl) ?_
    refine zs_iload_n (pc := 24) dX_firstFailing_24 rfl ?_
    refine zn_iald (pc := 25) dX_firstFailing_25 (by first | exact hx9 | exact hP9.1 | exact hP9.2.2.1 | exact hP9.2.2.2.1 | exact hP9.2.2.2.2) (by omega) (by first | decide | assumption) ?_
    refine zs_aload_n (pc := 26) dX_firstFailing_26 rfl ?_
    refine zs_get (pc := 27) dX_firstFailing_27 fX_43 (by first | exact hx9 | exact hP9.1 | exact hP9.2.2.1 | exact hP9.2.2.2.1 | exact hP9.2.2.2.2) (by rfl) ?_
    refine zs_get (pc := 30) dX_firstFailing_30 fX_362 (by first | exact hx9 | exact hP9.1 | exact hP9.2.2.1 | exact hP9.2.2.2.1 | exact hP9.2.2.2.2) (by rfl) ?_
    refine zs_iload_n (pc := 33) dX_firstFailing_33 rfl ?_
    refine zn_iald (pc := 34) dX_firstFailing_34 (by first | exact hx9 | exact hP9.1 | exact hP9.2.2.1 | exact hP9.2.2.2.1 | exact hP9.2.2.2.2) (by omega) (by first | decide | assumption) ?_
    refine zs_aload_n (pc := 35) dX_firstFailing_35 rfl ?_
    refine zs_get (pc := 36) dX_firstFailing_36 fX_43 (by first | exact hx9 | exact hP9.1 | exact hP9.2.2.1 | exact hP9.2.2.2.1 | exact hP9.2.2.2.2) (by rfl) ?_
    refine zs_get (pc := 39) dX_firstFailing_39 fX_365 (by first | exact hx9 | exact hP9.1 | exact hP9.2.2.1 | exact hP9.2.2.2.1 | exact hP9.2.2.2.2) (by rfl) ?_
    refine zs_iload_n (pc := 42) dX_firstFailing_42 rfl ?_
    refine zn_iald (pc := 43) dX_firstFailing_43 (by first | exact hx9 | exact hP9.1 | exact hP9.2.2.1 | exact hP9.2.2.2.1 | exact hP9.2.2.2.2) (by omega) (by first | decide | assumption) ?_
    refine zcVQ_3 (pc := 44) (d2 := d - 1) (s_C_perform hl (by omega) hR hI (by omega) hk (nI (F pre.length)) (nI (S pre.length))) dX_firstFailing_44 kX_83 mdC_perform miC_perform mvC_perform rfl (by exact hc9) rfl (Nat.le_of_ble_eq_true rfl) (by omega) (by omega) (by omega) (fun v h8 n1 hq => ?_) (fun E h1 n1 hq => absurd hq.1 (by intro q; cases q))
    obtain ⟨hv9, rfl, hf9, hR2⟩ := hq
    obtain rfl := Sum.inl.inj hv9
    generalize zdo g9 (K pre.length) (nI (F pre.length)) (nI (S pre.length)) = op at hI2 hab hlim hsame hR2 ⊢
    by_cases e : op.1 = 0
    · have hans : zans (K pre.length) op = nI op.2.1 := if_pos e
      rw [hans, if_pos e]
      have h7 := ih (pre ++ [y]) op.2.2 h8 (some (.int (nI op.2.1))) (by rw [hpre, List.append_assoc]; rfl) hR2 (by rw [List.length_append]; exact hI2) (hf.tr hf9)
      rw [List.length_append] at h7
      refine zs_istore_n (pc := 47) (ls2 := [_, _, _]) dX_firstFailing_47 (Nat.le_of_ble_eq_true rfl) rfl ?_
      refine zs_iload_n (pc := 48) dX_firstFailing_48 rfl ?_
      refine zs_if_ge (pc := 49) 54 dX_firstFailing_49 rfl (fun _ => ?_) (fun h9 => absurd h9 (fun q => q (nI_nn hab)))
      refine zn_iinc (pc := 54) (ls2 := [_, _, _]) dX_firstFailing_54 rfl (Nat.le_of_ble_eq_true rfl) rfl ?_
      refine zs_goto (pc := 57) 2 dX_firstFailing_57 rfl ?_
      exact h7
    · have hans : zans (K pre.length) op = zneg (K pre.length) op.1 := if_neg e
      obtain ⟨z1, z2⟩ := zneg_ok (K pre.length) (by omega) op.1 hlim e
      have hneg : ¬ 0 ≤ zneg (K pre.length) op.1 := by rcases z1 with z | z | z | z <;> rw [z] <;> decide
      rw [hans, if_neg e]
      rw [hsame e] at hR2
      refine zs_istore_n (pc := 47) (ls2 := [_, _, _]) dX_firstFailing_47 (Nat.le_of_ble_eq_true rfl) rfl ?_
      refine zs_iload_n (pc := 48) dX_firstFailing_48 rfl ?_
      refine zs_if_ge (pc := 49) 54 dX_firstFailing_49 rfl (fun h9 => absurd h9 (hneg)) (fun _ => ?_)
      refine zs_iload_n (pc := 52) dX_firstFailing_52 rfl ?_
      exact zs_iret (pc := 53) dX_firstFailing_53 rfl rfl (by omega) (by omega) (⟨rfl, rfl, hf.tr hf9, hR2⟩)
theorem s_X_firstFailing {Γ : zG} {l : Launch} (hl : l.stackTraces = false) {d : Nat} (hd : 6 ≤ d) {h : zH} {n : Nat} {x st B po v c0 np : Nat} {sv : Bool} {er fl : Option Nat} {g T K F S : Nat → Nat} {A : List zCmd} (hx : h x = some (zXo x st sv er fl)) (hP : PH h (x + 471) T np po v c0 A.length K F S) (hcm : zCm K F S A) (hA : ∀ x, x ∈ A → x.1 < 10) (hlen : A.length ≤ 15) (hB : B + 300 < 2 ^ 20) (hR : CR h (x + 1) g) (hI : IG B g) : zC Γ l d mX_firstFailing [.ref x] h n 0 0 (fun o h1 n1 => o = .inl (some (.int (zer (zex A 0 g).1))) ∧ n1 = n ∧ zfr (x + 1) 42 h h1 ∧ CR h1 (x + 1) (zex A 0 g).2) := by
  refine zC_of (ls := [some (.ref x), none, none]) hl (by decide +kernel) rfl (Nat.le_of_ble_eq_true rfl) rfl ?_
  refine zs_iconst (pc := 0) dX_firstFailing_0 zi_0 ?_
  refine zs_istore_n (pc := 1) (ls2 := [_, _, _]) dX_firstFailing_1 (Nat.le_of_ble_eq_true rfl) rfl ?_
  exact lp_X_firstFailing hl hd hx hP hcm hA hlen hB A [] g h _ rfl hR hI zfr.rf
theorem zer_ne {p : Nat} (h : p < 2 ^ 31) : ¬ zer (some p) = -1 := fun q => by
  have h9 := nI_pos (n := p) h
  have q : nI p = -1 := q
  rw [q] at h9
  exact h9 (by decide)
theorem s_X_run {Γ : zG} {l : Launch} (hl : l.stackTraces = false) {d : Nat} (hd : 8 ≤ d) {h : zH} {n : Nat} {B x c np : Nat} {g T : Nat → Nat} {P : Nat → Nat → Nat} {sv : Option (Nat → Nat)} {er fl : Option Nat} {L : List Nat} (hX : XR B h x g P c sv er fl T np L) (hB : B < 2 ^ 20) (hB2 : B + 300 < 2 ^ 20) : zC Γ l d mX_run [.ref x] h n 1 6 (zXq x h n ["", sIA, sIS] (zrunO g T np er fl).1 (fun h1 => XR (B + 300) h1 x (zrunO g T np er fl).2.1 (zkP (zrunO g T np er fl).1.1 P c g) (zkc (zrunO g T np er fl).1.1 c) sv (zrunO g T np er fl).2.2.1 (zrunO g T np er fl).2.2.2 T 0 L)) := by
  have hX9 := hX; obtain ⟨⟨st, hst, hx, htr⟩, hR, hI, hsv, hH, hrk, hpg, hn60, hTc, hL, hag⟩ := hX; have i0 := hI.1
  obtain ⟨po, v, c0, m, K, F, S, hPo⟩ := id hpg
  obtain ⟨r1, r2, r3⟩ := zps_ok (T := T) (n := np) 15 0 [] (Nat.zero_le _) (fun x hx => by cases hx)
  refine zC_of (ls := [some (.ref x), none, none]) hl (by decide +kernel) rfl (Nat.le_of_ble_eq_true rfl) rfl ?_
  refine zs_aload_n (pc := 0) dX_run_0 rfl ?_
  refine zs_get (pc := 1) dX_run_1 fX_43 (by first | exact hx | exact hx2 | exact hx3 | exact hx4 | exact hx5 | exact hx6 | exact zu_s | exact hp6) (by rfl) ?_
  refine zcVQ_0 (pc := 4) (d2 := d - 1) (s_P_read hl (by omega) hPo hn60 hTc) dX_run_4 kX_342 mdP_read miP_read mvP_read rfl (by first | exact hPo.1 | exact hP2.1 | exact hh3 | exact hx4 | exact hh5) rfl (Nat.le_of_ble_eq_true rfl) (by omega) (by omega) (by omega) (fun v h2 n1 hq => ?_) (fun E h1 n1 hq => absurd hq.1 (by intro q; cases q))
  obtain ⟨hv9, rfl, hf9, po2, v2, c2, m2, K2, F2, S2, hP2, hres⟩ := hq
  obtain rfl := Sum.inl.inj hv9
  obtain ⟨r, hr⟩ : ∃ r, zps T np 15 0 [] = r := ⟨_, rfl⟩
  rw [hr] at r1 r2 r3 hres ⊢
  have hf2 := hf9
  have hx2 : h2 x = some (zXo x st sv.isSome er fl) := by rw [hf9 _ (by omega)]; exact hx
  have hP3 := hP2.o (n2 := 0) (po2 := po2) (v2 := v2) (c2 := c2) (m2 := m2)
  have hk3 : ∀ q, ¬ (x + 471 ≤ q ∧ q < x + 476) → zu h2 (x + 471) (zPo (x + 471) 0 po2 v2 c2 m2) q = h q := fun q q1 => by rw [zu_n (by omega)]; exact hf2 q (by omega)
  have hx3 : zu h2 (x + 471) (zPo (x + 471) 0 po2 v2 c2 m2) x = some (zXo x st sv.isSome er fl) := by rw [hk3 _ (by omega)]; exact hx
  refine zs_istore_n (pc := 7) (ls2 := [_, _, _]) dX_run_7 (Nat.le_of_ble_eq_true rfl) rfl ?_
  refine zs_aload_n (pc := 8) dX_run_8 rfl ?_
  refine zs_get (pc := 9) dX_run_9 fX_43 (by first | exact hx | exact hx2 | exact hx3 | exact hx4 | exact hx5 | exact hx6 | exact zu_s | exact hp6) (by rfl) ?_
  refine zcV0_0 (pc := 12) (d2 := d - 1) (s_P_clear hl hP2) dX_run_12 kX_345 mdP_clear miP_clear mvP_clear rfl (by first | exact hPo.1 | exact hP2.1 | exact hh3 | exact hx4 | exact hh5) rfl (Nat.le_of_ble_eq_true rfl) (by omega) (by omega) (by omega) ?_
  generalize zu h2 (x + 471) (zPo (x + 471) 0 po2 v2 c2 m2) = h3 at hP3 hk3 hx3 ⊢
  have hR3 := hR.sm (h1 := h3) (fun q q1 q2 => hk3 q (by omega))
  have hH3 := hH.sm (h1 := h3) (fun q q1 q2 => hk3 q (by omega))
  have hs3 := (hsv.sm (h1 := h3) (fun q q1 q2 => hk3 q (by omega))).mono (Nat.le_add_right B 300)
  have ht3 := htr.sm (h1 := h3) (fun q q1 q2 => hk3 q (by omega))
  have hr3 := hrk.sm (h1 := h3) (fun q q1 q2 => hk3 q (by omega))
  have hl3 := hL.sm (h1 := h3) (fun q q1 q2 => hk3 q (by omega))
  have ha3 := hag.sm (h1 := h3) (fun q q1 q2 => hk3 q (by omega))
  have hg3 : zXpg h3 x T 0 := ⟨po2, v2, c2, m2, K2, F2, S2, hP3⟩
  obtain ⟨rp, rA⟩ := r
  cases rp with
  | some p =>
    have hp := r1 p rfl
    rw [zrunO_p hr]
    refine zs_iload_n (pc := 15) dX_run_15 rfl ?_
    refine zs_iconst (pc := 16) dX_run_16 zi_m1 ?_
    refine zs_icmp_eq (pc := 17) 36 dX_run_17 rfl (fun h9 => absurd h9 (fun q => zer_ne (by omega) q)) (fun _ => ?_)
    refine zs_aload_n (pc := 20) dX_run_20 rfl ?_
    refine zs_iload_n (pc := 21) dX_run_21 rfl ?_
    refine zs_put (pc := 22) (fs2 := [_, _, _, _, _, _, _, _, _, _, _, _]) dX_run_22 fX_68 (by first | exact hx | exact hx2 | exact hx3 | exact hx4 | exact hx5 | exact hx6 | exact zu_s | exact hp6) (by rfl) (by rfl) (by exact Nat.le_of_ble_eq_true rfl) (by rfl) ?_
    have hkz : ∀ q, q ≠ x → zu h3 x (zXo x st sv.isSome (some p) fl) q = h3 q := fun q q1 => zu_n q1
    exact zs_throwW (pc := 25) (text := "the program is malformed") thIA (by decide) rfl dX_run_25 dX_run_28 dX_run_29 dX_run_32 dX_run_35 (Nat.le_of_ble_eq_true rfl) (by omega) (by omega) (fun n2 hn2 => ⟨zOut.n rfl hn2, fun q hq => (hkz q (by omega)).trans (hk3 q (by omega)), ⟨st, hst, zu_s, ht3.sm (fun q q1 q2 => hkz q (by omega))⟩, hR3.sm (fun q q1 q2 => hkz q (by omega)), hI.mono (Nat.le_add_right B 300), hs3.sm (fun q q1 q2 => hkz q (by omega)), (hH3.sm (fun q q1 q2 => hkz q (by omega))).mono (Nat.le_add_right B 300), hr3.sm (fun q q1 q2 => hkz q (by omega)), hg3.sm (fun q q1 q2 => hkz q (by omega)), Nat.zero_le _, fun i hi => absurd hi (by omega), hl3.sm (fun q q1 q2 => hkz q (by omega)), ha3.sm (fun q q1 q2 => hkz q (by omega))⟩)
  | none =>
    obtain ⟨rfl, hcm⟩ := hres rfl
    have hr2 : ∀ x, x ∈ rA → x.1 < 10 := r2
    have hr3l : rA.length ≤ 15 := r3
    have hexI := zex_I (B := B) rA 0 g hr2 hI
    have hexl := zex_lt rA 0 g
    obtain ⟨M0, m0, G0, a1, a2, hh3, a4, a5, a6, a7⟩ := id hH3
    refine zs_iload_n (pc := 15) dX_run_15 rfl ?_
    refine zs_iconst (pc := 16) dX_run_16 zi_m1 ?_
    refine zs_icmp_eq (pc := 17) 36 dX_run_17 rfl (fun _ => ?_) (fun h9 => absurd h9 (fun q => q rfl))
    refine zs_aload_n (pc := 36) dX_run_36 rfl ?_
    refine zs_get (pc := 37) dX_run_37 fX_22 (by first | exact hx | exact hx2 | exact hx3 | exact hx4 | exact hx5 | exact hx6 | exact zu_s | exact hp6) (by rfl) ?_
    refine zs_aload_n (pc := 40) dX_run_40 rfl ?_
    refine zs_get (pc := 41) dX_run_41 fX_12 (by first | exact hx | exact hx2 | exact hx3 | exact hx4 | exact hx5 | exact hx6 | exact zu_s | exact hp6) (by rfl) ?_
    refine zcVQ_1 (pc := 44) (d2 := d - 1) (s_H_mark hl (by omega) hH3 hR3 hI (by omega)) dX_run_44 kX_79 mdH_mark miH_mark mvH_mark rfl (by first | exact hPo.1 | exact hP2.1 | exact hh3 | exact hx4 | exact hh5) rfl (Nat.le_of_ble_eq_true rfl) (by omega) (by omega) (by omega) (fun v h4 n1 hq => ?_) (fun E h1 n1 hq => absurd hq.1 (by intro q; cases q))
    obtain ⟨hv9, rfl, hf9, hM4⟩ := hq
    obtain rfl := Sum.inl.inj hv9
    have hx4 : h4 x = some (zXo x st sv.isSome er fl) := by rw [hf9 _ (by omega)]; exact hx3
    have hf4 := hf9
    have hR4 := hR3.fr hf9 (by omega)
    have hP4 := hP3.fr hf9 (by omega)
    refine zs_aload_n (pc := 47) dX_run_47 rfl ?_
    refine zcVQ_0 (pc := 48) (d2 := d - 1) (s_X_firstFailing hl (by omega) hx4 hP4 hcm hr2 hr3l hB2 hR4 hI) dX_run_48 kX_348 mdX_firstFailing miX_firstFailing mvX_firstFailing rfl (by first | exact hPo.1 | exact hP2.1 | exact hh3 | exact hx4 | exact hh5) rfl (Nat.le_of_ble_eq_true rfl) (by omega) (by omega) (by omega) (fun v h5 n1 hq => ?_) (fun E h1 n1 hq => absurd hq.1 (by intro q; cases q))
    obtain ⟨hv9, rfl, hf9, hR5⟩ := hq
    obtain rfl := Sum.inl.inj hv9
    have hx5 : h5 x = some (zXo x st sv.isSome er fl) := by rw [hf9 _ (by omega)]; exact hx4
    have hf5 := hf9
    have hM5 := hM4.fr hf9 (by omega)
    have hP5 := hP4.fr hf9 (by omega)
    have hk5 : ∀ q, ¬ (x + 1 ≤ q ∧ q < x + 43) → ¬ (x + 85 ≤ q ∧ q < x + 465) → h5 q = h3 q := fun q q1 q2 => by rw [hf5 q (by omega)]; exact hf4 q (by omega)
    obtain ⟨m8, G8, b1, b2, hh5, b4, b5, b6, b7⟩ := id hM5
    obtain ⟨ex, hex⟩ : ∃ ex, zex rA 0 g = ex := ⟨_, rfl⟩
    rw [hex] at hexI hexl hR5 ⊢
    obtain ⟨ei, eg2⟩ := ex
    cases ei with
    | some i =>
      have hi := hexl i rfl
      rw [zrunO_f hr hex]
      refine zs_istore_n (pc := 51) (ls2 := [_, _, _]) dX_run_51 (Nat.le_of_ble_eq_true rfl) rfl ?_
      refine zs_iload_n (pc := 52) dX_run_52 rfl ?_
      refine zs_iconst (pc := 53) dX_run_53 zi_m1 ?_
      refine zs_icmp_eq (pc := 54) 84 dX_run_54 rfl (fun h9 => absurd h9 (fun q => zer_ne (by omega) q)) (fun _ => ?_)
      refine zs_aload_n (pc := 57) dX_run_57 rfl ?_
      refine zs_get (pc := 58) dX_run_58 fX_22 (by first | exact hx | exact hx2 | exact hx3 | exact hx4 | exact hx5 | exact hx6 | exact zu_s | exact hp6) (by rfl) ?_
      refine zs_aload_n (pc := 61) dX_run_61 rfl ?_
      refine zs_get (pc := 62) dX_run_62 fX_12 (by first | exact hx | exact hx2 | exact hx3 | exact hx4 | exact hx5 | exact hx6 | exact zu_s | exact hp6) (by rfl) ?_
      refine zcVQ_1 (pc := 65) (d2 := d - 1) (s_H_returnToMark hl (by omega) hM5 hR5 (by omega)) dX_run_65 kX_351 mdH_returnToMark miH_returnToMark mvH_returnToMark rfl (by first | exact hPo.1 | exact hP2.1 | exact hh3 | exact hx4 | exact hh5) rfl (Nat.le_of_ble_eq_true rfl) (by omega) (by omega) (by omega) (fun v h6 n1 hq => ?_) (fun E h1 n1 hq => absurd hq.1 (by intro q; cases q))
      obtain ⟨hv9, rfl, hf9, hR6⟩ := hq
      obtain rfl := Sum.inl.inj hv9
      have hx6 : h6 x = some (zXo x st sv.isSome er fl) := by rw [hf9 _ (by omega)]; exact hx5
      have hH6 : HR B h6 (x + 85) P c := ⟨_, hM5.fr hf9 (by omega)⟩
      have hkz : ∀ q, q ≠ x → ¬ (x + 1 ≤ q ∧ q < x + 43) → ¬ (x + 85 ≤ q ∧ q < x + 465) → zu h6 x (zXo x st sv.isSome er (some i)) q = h3 q := fun q q0 q1 q2 => by rw [zu_n q0, hf9 q (by omega)]; exact hk5 q q1 q2
      refine zs_aload_n (pc := 68) dX_run_68 rfl ?_
      refine zs_iload_n (pc := 69) dX_run_69 rfl ?_
      refine zs_put (pc := 70) (fs2 := [_, _, _, _, _, _, _, _, _, _, _, _]) dX_run_70 fX_72 (by first | exact hx | exact hx2 | exact hx3 | exact hx4 | exact hx5 | exact hx6 | exact zu_s | exact hp6) (by rfl) (by rfl) (by exact Nat.le_of_ble_eq_true rfl) (by rfl) ?_
      exact zs_throwW (pc := 73) (text := "a command failed") thIS (by decide) rfl dX_run_73 dX_run_76 dX_run_77 dX_run_80 dX_run_83 (Nat.le_of_ble_eq_true rfl) (by omega) (by omega) (fun n2 hn2 => ⟨zOut.n rfl hn2, fun q hq => (hkz q (by omega) (by omega) (by omega)).trans (hk3 q (by omega)), ⟨st, hst, zu_s, ht3.sm (fun q q1 q2 => hkz q (by omega) (by omega) (by omega))⟩, hR6.sm (fun q q1 q2 => zu_n (by omega)), hI.mono (Nat.le_add_right B 300), hs3.sm (fun q q1 q2 => hkz q (by omega) (by omega) (by omega)), (hH6.sm (fun q q1 q2 => zu_n (by omega))).mono (Nat.le_add_right B 300), hr3.sm (fun q q1 q2 => hkz q (by omega) (by omega) (by omega)), hg3.sm (fun q q1 q2 => hkz q (by omega) (by omega) (by omega)), Nat.zero_le _, fun i hi => absurd hi (by omega), hl3.sm (fun q q1 q2 => hkz q (by omega) (by omega) (by omega)), ha3.sm (fun q q1 q2 => hkz q (by omega) (by omega) (by omega))⟩)
    | none =>
      rw [zrunO_k hr hex]
      refine zs_istore_n (pc := 51) (ls2 := [_, _, _]) dX_run_51 (Nat.le_of_ble_eq_true rfl) rfl ?_
      refine zs_iload_n (pc := 52) dX_run_52 rfl ?_
      refine zs_iconst (pc := 53) dX_run_53 zi_m1 ?_
      refine zs_icmp_eq (pc := 54) 84 dX_run_54 rfl (fun _ => ?_) (fun h9 => absurd h9 (fun q => q rfl))
      refine zs_aload_n (pc := 84) dX_run_84 rfl ?_
      refine zs_get (pc := 85) dX_run_85 fX_22 (by first | exact hx | exact hx2 | exact hx3 | exact hx4 | exact hx5 | exact hx6 | exact zu_s | exact hp6) (by rfl) ?_
      refine zcVQ_0 (pc := 88) (d2 := d - 1) (s_H_keepMark hl hM5) dX_run_88 kX_90 mdH_keepMark miH_keepMark mvH_keepMark rfl (by first | exact hPo.1 | exact hP2.1 | exact hh3 | exact hx4 | exact hh5) rfl (Nat.le_of_ble_eq_true rfl) (by omega) (by omega) (by omega) (fun v h6 n1 hq => ?_) (fun E h1 n1 hq => absurd hq.1 (by intro q; cases q))
      obtain ⟨hv9, rfl, hf9, hH6⟩ := hq
      obtain rfl := Sum.inl.inj hv9
      have hx6 : h6 x = some (zXo x st sv.isSome er fl) := by rw [hf9 _ (by omega)]; exact hx5
      have hkz : ∀ q, q ≠ x → ¬ (x + 1 ≤ q ∧ q < x + 43) → ¬ (x + 85 ≤ q ∧ q < x + 465) → zu h6 x (zXo x 1 sv.isSome er fl) q = h3 q := fun q q0 q1 q2 => by rw [zu_n q0, hf9 q (by omega)]; exact hk5 q q1 q2
      have hR6 := (hR5.fr hf9 (by omega)).sm (h1 := zu h6 x (zXo x 1 sv.isSome er fl)) (fun q q1 q2 => zu_n (by omega))
      have hP6 := (hP5.fr hf9 (by omega)).sm (h1 := zu h6 x (zXo x 1 sv.isSome er fl)) (fun q q1 q2 => zu_n (by omega))
      have hp6 := hP6.1
      refine zs_aload_n (pc := 91) dX_run_91 rfl ?_
      refine zs_iconst (pc := 92) dX_run_92 zi_1 ?_
      refine zs_put (pc := 93) (fs2 := [_, _, _, _, _, _, _, _, _, _, _, _]) dX_run_93 fX_61 (by first | exact hx | exact hx2 | exact hx3 | exact hx4 | exact hx5 | exact hx6 | exact zu_s | exact hp6) (by rfl) (by rfl) (by exact Nat.le_of_ble_eq_true rfl) (by rfl) ?_
      refine zs_aload_n (pc := 96) dX_run_96 rfl ?_
      refine zs_get (pc := 97) dX_run_97 fX_43 (by first | exact hx | exact hx2 | exact hx3 | exact hx4 | exact hx5 | exact hx6 | exact zu_s | exact hp6) (by rfl) ?_
      refine zs_get (pc := 100) dX_run_100 fX_356 (by first | exact hx | exact hx2 | exact hx3 | exact hx4 | exact hx5 | exact hx6 | exact zu_s | exact hp6) (by rfl) ?_
      exact zs_iret (pc := 103) dX_run_103 rfl rfl (by omega) (by omega) (⟨zOut.y, fun q hq => (hkz q (by omega) (by omega) (by omega)).trans (hk3 q (by omega)), ⟨1, by decide, zu_s, (ht3.old (g2 := eg2)).sm (fun q q1 q2 => hkz q (by omega) (by omega) (by omega))⟩, hR6, hexI.mono (by omega), hs3.sm (fun q q1 q2 => hkz q (by omega) (by omega) (by omega)), (hH6.sm (fun q q1 q2 => zu_n (by omega))).mono (Nat.le_add_right B 300), hr3.sm (fun q q1 q2 => hkz q (by omega) (by omega) (by omega)), ⟨_, _, _, _, _, _, _, hP6⟩, Nat.zero_le _, fun i hi => absurd hi (by omega), hl3.sm (fun q q1 q2 => hkz q (by omega) (by omega) (by omega)), ha3.sm (fun q q1 q2 => hkz q (by omega) (by omega) (by omega))⟩)

