/-! the history: a ring of nine contents -/
def zg0 : Nat → Nat := fun j => if j = 2 then 1 else 0
def zHo (a m c : Nat) : zE := .inr (2, [.ref (a + 1), .int (nI m), .int (nI c)])
def zHa (a : Nat) : zE := .inl (3, 9, .inr (.inr (.inr (.inr (fun j => some (a + 2 + 42 * j))))))
theorem IG.zero {B : Nat} : IG B zg0 := by
  have e0 : zg0 0 = 0 := rfl
  have ez : ∀ j, j ≠ 2 → zg0 j = 0 := fun j hj => if_neg hj
  refine ⟨by omega, by rw [ez 1 (by decide)]; omega, by decide, by decide, by decide, fun j hj => absurd hj (by omega), fun j hj => absurd hj (by omega), by rw [e0]; exact Nat.zero_le _, fun j _ _ => ⟨ez _ (by omega), ez _ (by omega), ez _ (by omega)⟩⟩
theorem CR.new {h : zH} {r : Nat} (hC : CH h r (fun j => j) (fun _ _ => 0) zFz) : CR h r zg0 :=
  CR.mk hC ⟨fun j hj => hj, fun i j _ _ h => h⟩ rfl rfl rfl rfl rfl rfl rfl (fun j hj => absurd hj (by show ¬ j < 0; omega))
/-- what a copy leaves -/
theorem CR.cp {h : zH} {r B : Nat} {p p2 : Nat → Nat} {Q2 Q' : Nat → Nat → Nat} {g : Nat → Nat} (hp : PM p) (hA : ∀ j, j < g 0 → zAg (Q2 (p2 j)) (eg g j)) (hI : IG B g) (hC : CH h r p Q' (zFg g)) (he : ∀ k, k < g 0 → ∀ m, m < 12 → Q' (p k) m = Q2 (p2 k) m) : CR h r g :=
  ⟨p, Q', hC, hp, fun j hj i hi => by
    have h6 := hI.s6 j hj
    rw [he j hj i (by omega)]
    exact hA j hj i hi⟩
/-- the ring: P k is the k-th oldest of c kept contents; row m is the next to be written and holds M -/
def HRm (B : Nat) (h : zH) (a : Nat) (P : Nat → Nat → Nat) (c : Nat) (M : Nat → Nat) : Prop := ∃ (m : Nat) (G : Nat → Nat → Nat), m < 9 ∧ c ≤ 8 ∧ h a = some (zHo a m c) ∧ h (a + 1) = some (zHa a) ∧ (∀ j, j < 9 → CR h (a + 2 + 42 * j) (G j) ∧ IG B (G j)) ∧ (∀ k, k < c → G ((m + 9 - c + k) % 9) = P k) ∧ G m = M
def HR (B : Nat) (h : zH) (a : Nat) (P : Nat → Nat → Nat) (c : Nat) : Prop := ∃ M, HRm B h a P c M
theorem HRm.fr {B : Nat} {h h1 : zH} {a r2 m2 c : Nat} {P : Nat → Nat → Nat} {M : Nat → Nat} (hH : HRm B h a P c M) (hf : zfr r2 m2 h h1) (hd : a + 380 ≤ r2 ∨ r2 + m2 ≤ a) : HRm B h1 a P c M := by
  obtain ⟨m, G, h1, h2, h3, h4, h5, h6, h7⟩ := hH
  exact ⟨m, G, h1, h2, by rw [hf _ (by omega)]; exact h3, by rw [hf _ (by omega)]; exact h4, fun j hj => ⟨(h5 j hj).1.fr hf (by omega), (h5 j hj).2⟩, h6, h7⟩
theorem HR.fr {B : Nat} {h h1 : zH} {a r2 m2 c : Nat} {P : Nat → Nat → Nat} (hH : HR B h a P c) (hf : zfr r2 m2 h h1) (hd : a + 380 ≤ r2 ∨ r2 + m2 ≤ a) : HR B h1 a P c := by
  obtain ⟨M, hM⟩ := hH
  exact ⟨M, hM.fr hf hd⟩
theorem HR.mono {B B2 : Nat} {h : zH} {a c : Nat} {P : Nat → Nat → Nat} (hH : HR B h a P c) (hB : B ≤ B2) : HR B2 h a P c := by
  obtain ⟨M, m, G, h1, h2, h3, h4, h5, h6, h7⟩ := hH
  exact ⟨M, m, G, h1, h2, h3, h4, fun j hj => ⟨(h5 j hj).1, (h5 j hj).2.mono hB⟩, h6, h7⟩
theorem HRm.mono {B B2 : Nat} {h : zH} {a c : Nat} {P : Nat → Nat → Nat} {M : Nat → Nat} (hH : HRm B h a P c M) (hB : B ≤ B2) : HRm B2 h a P c M := by
  obtain ⟨m, G, h1, h2, h3, h4, h5, h6, h7⟩ := hH
  exact ⟨m, G, h1, h2, h3, h4, fun j hj => ⟨(h5 j hj).1, (h5 j hj).2.mono hB⟩, h6, h7⟩
theorem lp_H_init {Γ : zG} {l : Launch} (hl : l.stackTraces = false) {d : Nat} (hd : 2 ≤ d) {h : zH} {a : Nat} : ∀ i j, i + j = 9 → ∀ (hz : zH) (f : Nat → Option Nat), hz a = some (zHo a 0 0) → hz (a + 1) = some (.inl (3, 9, .inr (.inr (.inr (.inr f))))) → (∀ s, s < j → f s = some (a + 2 + 42 * s)) → (∀ s, s < j → CH hz (a + 2 + 42 * s) (fun j => j) (fun _ _ => 0) zFz) → zfr a 380 h hz → Z Γ l mH_init d 379 2601 (zFin Γ (fun o h2 n2 => o = .inl none ∧ n2 = a + 380 ∧ zfr a 380 h h2 ∧ ∀ B, HR B h2 a (fun _ _ => 0) 0) 379 2601) 25 [some (.ref a), some (.int (nI j))] [] hz (a + 2 + 42 * j) (1 + 42 * j) (9 + 288 * j) := by
  intro i
  induction i with
  | zero =>
    intro j hj hz f g1 g2 g3 g4 hfr
    obtain rfl : j = 9 := by omega
    refine zs_iload_n (pc := 25) dH_init_25 rfl ?_
    refine zs_bipush (pc := 26) dH_init_26 (zi_b 9 (by decide)) ?_
    refine zn_icmp_ge (pc := 28) 50 dH_init_28 rfl (by omega) (by omega) (fun _ => ?_) (fun h9 => absurd h9 (by omega))
    refine zs_extq (fun s => some (a + 2 + 42 * s)) g2 g3 ?_
    have hfr2 : zfr (a + 1) 1 hz (zu hz (a + 1) (zHa a)) := zfr.u (by omega) (by omega)
    exact zs_vret (pc := 50) dH_init_50 rfl (by omega) (by omega) (⟨rfl, by omega, hfr.tr (zfr.u (by omega) (by omega)), fun B => ⟨zg0, 0, fun _ => zg0, by decide, by decide, by rw [zu_n (by omega)]; exact g1, zu_s, fun j hj => ⟨CR.new ((g4 j hj).fr hfr2 (by omega)), IG.zero⟩, fun k hk => absurd hk (by omega), rfl⟩⟩)
  | succ i ih =>
    intro j hj hz f g1 g2 g3 g4 hfr
    refine zs_iload_n (pc := 25) dH_init_25 rfl ?_
    refine zs_bipush (pc := 26) dH_init_26 (zi_b 9 (by decide)) ?_
    refine zn_icmp_ge (pc := 28) 50 dH_init_28 rfl (by omega) (by omega) (fun h9 => absurd h9 (by omega)) (fun _ => ?_)
    refine zs_aload_n (pc := 31) dH_init_31 rfl ?_
    refine zs_get (pc := 32) dH_init_32 fH_13 (by first | exact h0 | exact g1 | exact zu_s | (rw [zu_n (by omega)]; exact h0) | exact w1 | exact w2) (by rfl) ?_
    refine zs_iload_n (pc := 35) dH_init_35 rfl ?_
    refine zs_new (pc := 36) (ci := 0) (N := 8) (T := zTC) (fs := [.null, .int (nI 0), .int (nI 0), .int (nI 0), .int (nI 0), .int (nI 0), .int (nI 0), .int (nI 0)]) dH_init_36 rfl zcC_ok kcH_11 (zt1 (i := 35) rfl) (zt1 (i := 2) rfl) zfsC (by omega) (by omega) ?_
    refine zs_dup (pc := 39) dH_init_39 rfl ?_
    refine zcIR_0 (pc := 40) (d2 := d - 1) (s_C_init hl (by omega) zu_s) dH_init_40 kH_24 mdC_init miC_init rfl rfl rfl (Nat.le_of_ble_eq_true rfl) (by omega) (by omega) (by omega) (fun v h1 n1 hq => ?_) (fun E h1 n1 hq => ?_)
    · obtain ⟨hv, rfl, hf2, hC2⟩ := hq
      obtain rfl := Sum.inl.inj hv
      have w1 : h1 (a + 1) = some (.inl (3, 9, .inr (.inr (.inr (.inr f))))) := by rw [hf2 _ (by omega), zu_n (by omega)]; exact g2
      have w2 := hC2.1
      refine zn_aast (pc := 43) (kd := 3) dH_init_43 (by decide) (by first | exact h0 | exact g1 | exact zu_s | (rw [zu_n (by omega)]; exact h0) | exact w1 | exact w2) (by first | exact h0 | exact g1 | exact zu_s | (rw [zu_n (by omega)]; exact h0) | exact w1 | exact w2) (by rfl) (by rfl) (by omega) (by decide) ?_
      refine zn_iinc (pc := 44) (ls2 := [_, _]) dH_init_44 rfl (Nat.le_of_ble_eq_true rfl) rfl ?_
      refine zs_goto (pc := 47) 25 dH_init_47 rfl ?_
      have h9 := ih (j + 1) (by omega) (zu h1 (a + 1) (.inl (3, 9, .inr (.inr (.inr (.inr (va_up f j (some (a + 2 + 42 * j))))))))) (va_up f j (some (a + 2 + 42 * j))) (by rw [zu_n (by omega), hf2 _ (by omega), zu_n (by omega)]; exact g1) zu_s (fun s hs => ?_) (fun s hs => ?_) (fun q hq => ?_)
      · have e1 : a + 2 + 42 * (j + 1) = a + 2 + 42 * j + 42 := by omega
        have e2 : 1 + 42 * (j + 1) = 1 + 42 * j + 1 + 41 := by omega
        have e3 : 9 + 288 * (j + 1) = 9 + 288 * j + 8 + 280 := by omega
        rw [e1, e2, e3] at h9
        exact h9
      · unfold va_up
        by_cases e : s = j
        · subst e
          rw [if_pos rfl]
        · rw [if_neg e]
          exact g3 s (by omega)
      · have hfz : zfr (a + 1) 1 h1 (zu h1 (a + 1) (.inl (3, 9, .inr (.inr (.inr (.inr (va_up f j (some (a + 2 + 42 * j))))))))) := zfr.u (by omega) (by omega)
        by_cases e : s = j
        · subst e
          exact hC2.fr hfz (by omega)
        · have hfy : zfr (a + 2 + 42 * j) 1 hz (zu hz (a + 2 + 42 * j) (.inr (0, [.null, .int (nI 0), .int (nI 0), .int (nI 0), .int (nI 0), .int (nI 0), .int (nI 0), .int (nI 0)]))) := zfr.u (by omega) (by omega)
          exact (((g4 s (by omega)).fr hfy (by omega)).fr hf2 (by omega)).fr hfz (by omega)
      · rw [zu_n (by omega), hf2 _ (by omega), zu_n (by omega)]
        exact hfr q hq
    · exact absurd hq.1 (by intro q; cases q)
theorem s_H_init {Γ : zG} {l : Launch} (hl : l.stackTraces = false) {d : Nat} (hd : 2 ≤ d) {h : zH} {a : Nat} (h0 : h a = some (.inr (2, [.null, .int (nI 0), .int (nI 0)]))) : zC Γ l d mH_init [.ref a] h (a + 1) 379 2601 (fun o h2 n2 => o = .inl none ∧ n2 = a + 380 ∧ zfr a 380 h h2 ∧ ∀ B, HR B h2 a (fun _ _ => 0) 0) := by
  refine zC_of (ls := [some (.ref a), none]) hl (by decide +kernel) rfl (Nat.le_of_ble_eq_true rfl) rfl ?_
  refine zs_aload_n (pc := 0) dH_init_0 rfl ?_
  refine zs_objInit (pc := 1) dH_init_1 kH_3 (Nat.le_of_ble_eq_true rfl) ?_
  refine zs_aload_n (pc := 4) dH_init_4 rfl ?_
  refine zs_bipush (pc := 5) dH_init_5 (zi_b 9 (by decide)) ?_
  refine zs_newq (pc := 7) (kd := 3) (N := 9) dH_init_7 (Or.inr rfl) rfl kcH_11 (zt1 (i := 128) rfl) (by decide) (by decide) (by decide) (by omega) (by omega) ?_
  refine zs_putF (pc := 10) (fs2 := [_, _, _]) dH_init_10 rfl fH_13 ⟨_, _, rfl⟩ (by first | exact h0 | exact g1 | exact zu_s | (rw [zu_n (by omega)]; exact h0) | exact w1 | exact w2) (by rfl) (by rfl) (by exact Nat.le_of_ble_eq_true rfl) (by rfl) ?_
  refine zs_aload_n (pc := 13) dH_init_13 rfl ?_
  refine zs_iconst (pc := 14) dH_init_14 zi_0 ?_
  refine zs_putU (pc := 15) (fs2 := [_, _, _]) dH_init_15 fH_17 (by rfl) (by rfl) (by exact Nat.le_of_ble_eq_true rfl) (by rfl) ?_
  refine zs_aload_n (pc := 18) dH_init_18 rfl ?_
  refine zs_iconst (pc := 19) dH_init_19 zi_0 ?_
  refine zs_putU (pc := 20) (fs2 := [_, _, _]) dH_init_20 fH_21 (by rfl) (by rfl) (by exact Nat.le_of_ble_eq_true rfl) (by rfl) ?_
  refine zs_iconst (pc := 23) dH_init_23 zi_0 ?_
  refine zs_istore_n (pc := 24) (ls2 := [_, _]) dH_init_24 (Nat.le_of_ble_eq_true rfl) rfl ?_
  have h9 := lp_H_init (Γ := Γ) hl hd (h := h) (a := a) 9 0 rfl (zu (zu h (a + 1) (.inl (3, 9, .inr (.inr (.inr (.inr (fun _ => none))))))) a (zHo a 0 0)) (fun _ => none) zu_s (by rw [zu_n (by omega)]; exact zu_s) (fun s hs => absurd hs (by omega)) (fun s hs => absurd hs (by omega)) ((zfr.u (by omega) (by omega)).tr (zfr.u (by omega) (by omega)))
  exact h9
theorem s_H_mark {Γ : zG} {l : Launch} (hl : l.stackTraces = false) {d : Nat} (hd : 2 ≤ d) {h : zH} {n : Nat} {B a r c : Nat} {P : Nat → Nat → Nat} {g : Nat → Nat} (hH : HR B h a P c) (hR : CR h r g) (hI : IG B g) (hdj : r + 42 ≤ a ∨ a + 380 ≤ r) : zC Γ l d mH_mark [.ref a, .ref r] h n 0 0 (fun o h1 n1 => o = .inl none ∧ n1 = n ∧ zfr a 380 h h1 ∧ HRm B h1 a P c g) := by
  obtain ⟨M, m, G, m9, c8, g1, g2, g3, g4, g5⟩ := hH
  obtain ⟨p, Q, hC, hp, hA⟩ := (g3 m m9).1
  obtain ⟨p2, Q2, hC2, hp2, hA2⟩ := hR
  refine zC_of (ls := [some (.ref a), some (.ref r)]) hl (by decide +kernel) rfl (Nat.le_of_ble_eq_true rfl) rfl ?_
  refine zs_aload_n (pc := 0) dH_mark_0 rfl ?_
  refine zs_get (pc := 1) dH_mark_1 fH_13 (by first | exact g1 | exact g2 | exact zu_s) (by rfl) ?_
  refine zs_aload_n (pc := 4) dH_mark_4 rfl ?_
  refine zs_get (pc := 5) dH_mark_5 fH_17 (by first | exact g1 | exact g2 | exact zu_s) (by rfl) ?_
  refine zn_aald (pc := 8) (Or.inr rfl) dH_mark_8 (by first | exact g1 | exact g2 | exact zu_s) (by omega) (by decide) (by rfl) ?_
  refine zs_aload_n (pc := 9) dH_mark_9 rfl ?_
  refine zcVQ_1 (pc := 10) (d2 := d - 1) (s_C_copyFrom hl (by omega) hC hC2 hp hp2 hI.1 (by omega)) dH_mark_10 kH_25 mdC_copyFrom miC_copyFrom mvC_copyFrom rfl (by exact hC.1) rfl (Nat.le_of_ble_eq_true rfl) (by omega) (by omega) (by omega) (fun v h1 n1 hq => ?_) (fun E h1 n1 hq => ?_)
  · obtain ⟨hv, rfl, hf, Q', hC', he⟩ := hq
    obtain rfl := Sum.inl.inj hv
    have hR' := CR.cp hp hA2 hI hC' he
    refine zs_vret (pc := 13) dH_mark_13 rfl (by omega) (by omega) (⟨rfl, rfl, hf.sub (by omega) (by omega), m, fun j => if j = m then g else G j, m9, c8, by rw [hf _ (by omega)]; exact g1, by rw [hf _ (by omega)]; exact g2, fun j hj => ?_, fun k hk => ?_, if_pos rfl⟩)
    · show CR h1 (a + 2 + 42 * j) (if j = m then g else G j) ∧ IG B (if j = m then g else G j)
      by_cases e : j = m
      · subst e
        rw [if_pos rfl]
        exact ⟨hR', hI⟩
      · rw [if_neg e]
        exact ⟨(g3 j hj).1.fr hf (by omega), (g3 j hj).2⟩
    · show (if (m + 9 - c + k) % 9 = m then g else G ((m + 9 - c + k) % 9)) = P k
      rw [if_neg (by omega)]
      exact g4 k hk
  · exact absurd hq.1 (by intro q; cases q)
theorem s_H_returnToMark {Γ : zG} {l : Launch} (hl : l.stackTraces = false) {d : Nat} (hd : 2 ≤ d) {h : zH} {n : Nat} {B a r c : Nat} {P : Nat → Nat → Nat} {g M : Nat → Nat} (hH : HRm B h a P c M) (hR : CR h r g) (hdj : r + 42 ≤ a ∨ a + 380 ≤ r) : zC Γ l d mH_returnToMark [.ref a, .ref r] h n 0 0 (fun o h1 n1 => o = .inl none ∧ n1 = n ∧ zfr r 42 h h1 ∧ CR h1 r M) := by
  obtain ⟨m, G, m9, c8, g1, g2, g3, g4, g5⟩ := hH
  obtain ⟨hR3, hI⟩ := g3 m m9
  rw [g5] at hR3 hI
  obtain ⟨p, Q, hC, hp, hA⟩ := hR3
  obtain ⟨p2, Q2, hC2, hp2, hA2⟩ := hR
  refine zC_of (ls := [some (.ref a), some (.ref r)]) hl (by decide +kernel) rfl (Nat.le_of_ble_eq_true rfl) rfl ?_
  refine zs_aload_n (pc := 0) dH_returnToMark_0 rfl ?_
  refine zs_aload_n (pc := 1) dH_returnToMark_1 rfl ?_
  refine zs_get (pc := 2) dH_returnToMark_2 fH_13 (by first | exact g1 | exact g2 | exact zu_s) (by rfl) ?_
  refine zs_aload_n (pc := 5) dH_returnToMark_5 rfl ?_
  refine zs_get (pc := 6) dH_returnToMark_6 fH_17 (by first | exact g1 | exact g2 | exact zu_s) (by rfl) ?_
  refine zn_aald (pc := 9) (Or.inr rfl) dH_returnToMark_9 (by first | exact g1 | exact g2 | exact zu_s) (by omega) (by decide) (by rfl) ?_
  refine zcVQ_1 (pc := 10) (d2 := d - 1) (s_C_copyFrom hl (by omega) hC2 hC hp2 hp hI.1 (by omega)) dH_returnToMark_10 kH_25 mdC_copyFrom miC_copyFrom mvC_copyFrom rfl (by exact hC2.1) rfl (Nat.le_of_ble_eq_true rfl) (by omega) (by omega) (by omega) (fun v h1 n1 hq => ?_) (fun E h1 n1 hq => ?_)
  · obtain ⟨hv, rfl, hf, Q', hC', he⟩ := hq
    obtain rfl := Sum.inl.inj hv
    exact zs_vret (pc := 13) dH_returnToMark_13 rfl (by omega) (by omega) (⟨rfl, rfl, hf, CR.cp hp2 hA hI hC' he⟩)
  · exact absurd hq.1 (by intro q; cases q)
/-- one more is kept: the oldest of eight goes -/
def zkeep (P : Nat → Nat → Nat) (c : Nat) (M : Nat → Nat) : Nat → Nat → Nat := fun k => if c = 8 then (if k = 7 then M else P (k + 1)) else if k = c then M else P k
theorem s_H_keepMark {Γ : zG} {l : Launch} (hl : l.stackTraces = false) {d : Nat} {h : zH} {n : Nat} {B a c : Nat} {P : Nat → Nat → Nat} {M : Nat → Nat} (hH : HRm B h a P c M) : zC Γ l d mH_keepMark [.ref a] h n 0 0 (fun o h1 n1 => o = .inl none ∧ n1 = n ∧ zfr a 380 h h1 ∧ HR B h1 a (zkeep P c M) (min 8 (c + 1))) := by
  obtain ⟨m, G, m9, c8, g1, g2, g3, g4, g5⟩ := hH
  refine zC_of (ls := [some (.ref a)]) hl (by decide +kernel) rfl (Nat.le_of_ble_eq_true rfl) rfl ?_
  refine zs_aload_n (pc := 0) dH_keepMark_0 rfl ?_
  refine zs_aload_n (pc := 1) dH_keepMark_1 rfl ?_
  refine zs_get (pc := 2) dH_keepMark_2 fH_17 (by first | exact g1 | exact g2 | exact zu_s) (by rfl) ?_
  refine zs_iconst (pc := 5) dH_keepMark_5 zi_1 ?_
  refine zn_iadd (pc := 6) dH_keepMark_6 ?_
  refine zs_bipush (pc := 7) dH_keepMark_7 (zi_b 9 (by decide)) ?_
  refine zn_irem (pc := 9) dH_keepMark_9 (by omega) (by omega) (by omega) ?_
  refine zs_put (pc := 10) (fs2 := [_, _, _]) dH_keepMark_10 fH_17 (by first | exact g1 | exact g2 | exact zu_s) (by rfl) (by rfl) (by exact Nat.le_of_ble_eq_true rfl) (by rfl) ?_
  refine zs_aload_n (pc := 13) dH_keepMark_13 rfl ?_
  refine zs_bipush (pc := 14) dH_keepMark_14 (zi_b 8 (by decide)) ?_
  refine zs_aload_n (pc := 16) dH_keepMark_16 rfl ?_
  refine zs_get (pc := 17) dH_keepMark_17 fH_21 (by first | exact g1 | exact g2 | exact zu_s) (by rfl) ?_
  refine zs_iconst (pc := 20) dH_keepMark_20 zi_1 ?_
  refine zn_iadd (pc := 21) dH_keepMark_21 ?_
  refine zn_mmin (pc := 22) dH_keepMark_22 kH_29 (Nat.le_of_ble_eq_true rfl) (by omega) (by omega) (by omega) (by omega) ?_
  refine zs_putU (pc := 25) (fs2 := [_, _, _]) dH_keepMark_25 fH_21 (by rfl) (by rfl) (by exact Nat.le_of_ble_eq_true rfl) (by rfl) ?_
  have hfz : zfr a 1 h (zu h a (zHo a ((m + 1) % 9) (min 8 (c + 1)))) := zfr.u (by omega) (by omega)
  refine zs_vret (pc := 28) dH_keepMark_28 rfl (by omega) (by omega) (⟨rfl, rfl, zfr.u (by omega) (by omega), G ((m + 1) % 9), (m + 1) % 9, G, by omega, by omega, zu_s, by rw [zu_n (by omega)]; exact g2, fun j hj => ⟨(g3 j hj).1.fr hfz (by omega), (g3 j hj).2⟩, fun k hk => ?_, rfl⟩)
  unfold zkeep
  by_cases e : c = 8
  · subst e
    rw [if_pos rfl]
    by_cases e2 : k = 7
    · subst e2
      rw [if_pos rfl, show ((m + 1) % 9 + 9 - min 8 (8 + 1) + 7) % 9 = m by omega]
      exact g5
    · rw [if_neg e2, ← g4 (k + 1) (by omega)]
      congr 1
      omega
  · rw [if_neg e]
    by_cases e2 : k = c
    · subst e2
      rw [if_pos rfl, show ((m + 1) % 9 + 9 - min 8 (k + 1) + k) % 9 = m by omega]
      exact g5
    · rw [if_neg e2, ← g4 k (by omega)]
      congr 1
      omega
theorem s_H_takeBack {Γ : zG} {l : Launch} (hl : l.stackTraces = false) {d : Nat} (hd : 2 ≤ d) {h : zH} {n : Nat} {B a r c : Nat} {P : Nat → Nat → Nat} {g : Nat → Nat} (hH : HR B h a P (c + 1)) (hR : CR h r g) (hdj : r + 42 ≤ a ∨ a + 380 ≤ r) : zC Γ l d mH_takeBack [.ref a, .ref r] h n 0 0 (fun o h1 n1 => o = .inl none ∧ n1 = n ∧ (∀ q, ¬ (a ≤ q ∧ q < a + 380) → ¬ (r ≤ q ∧ q < r + 42) → h1 q = h q) ∧ HR B h1 a P c ∧ CR h1 r (P c)) := by
  obtain ⟨M, m, G, m9, c8, g1, g2, g3, g4, g5⟩ := hH
  have hfz : zfr a 1 h (zu h a (zHo a ((m + 8) % 9) c)) := zfr.u (by omega) (by omega)
  obtain ⟨hR3, hI⟩ := g3 ((m + 8) % 9) (by omega)
  have h4 := g4 c (by omega)
  rw [show (m + 9 - (c + 1) + c) % 9 = (m + 8) % 9 by omega] at h4
  rw [h4] at hR3 hI
  obtain ⟨p, Q, hC, hp, hA⟩ := hR3.fr hfz (by omega)
  obtain ⟨p2, Q2, hC2, hp2, hA2⟩ := hR.fr hfz (by omega)
  have g2' : zu h a (zHo a ((m + 8) % 9) c) (a + 1) = some (zHa a) := by rw [zu_n (by omega)]; exact g2
  refine zC_of (ls := [some (.ref a), some (.ref r)]) hl (by decide +kernel) rfl (Nat.le_of_ble_eq_true rfl) rfl ?_
  refine zs_aload_n (pc := 0) dH_takeBack_0 rfl ?_
  refine zs_aload_n (pc := 1) dH_takeBack_1 rfl ?_
  refine zs_get (pc := 2) dH_takeBack_2 fH_17 (by first | exact g1 | exact zu_s | exact g2') (by rfl) ?_
  refine zs_bipush (pc := 5) dH_takeBack_5 (zi_b 9 (by decide)) ?_
  refine zn_iadd (pc := 7) dH_takeBack_7 ?_
  refine zs_iconst (pc := 8) dH_takeBack_8 zi_1 ?_
  refine zn_isub (pc := 9) dH_takeBack_9 (by omega) ?_
  refine zs_bipush (pc := 10) dH_takeBack_10 (zi_b 9 (by decide)) ?_
  refine zn_irem (pc := 12) dH_takeBack_12 (by omega) (by omega) (by omega) ?_
  refine zs_put (pc := 13) (fs2 := [_, _, _]) dH_takeBack_13 fH_17 (by first | exact g1 | exact zu_s | exact g2') (by rfl) (by rfl) (by exact Nat.le_of_ble_eq_true rfl) (by rfl) ?_
  refine zs_aload_n (pc := 16) dH_takeBack_16 rfl ?_
  refine zs_dup (pc := 17) dH_takeBack_17 rfl ?_
  refine zs_get (pc := 18) dH_takeBack_18 fH_21 (by first | exact g1 | exact zu_s | exact g2') (by rfl) ?_
  refine zs_iconst (pc := 21) dH_takeBack_21 zi_1 ?_
  refine zn_isub (pc := 22) dH_takeBack_22 (by omega) ?_
  refine zs_putU (pc := 23) (fs2 := [_, _, _]) dH_takeBack_23 fH_21 (by rfl) (by rfl) (by exact Nat.le_of_ble_eq_true rfl) (by rfl) ?_
  have e8 : zu h a (.inr (2, [.ref (a + 1), .int (nI ((m + 9 - 1) % 9)), .int (nI (c + 1 - 1))])) = zu h a (zHo a ((m + 8) % 9) c) := rfl
  rw [e8]
  refine zs_aload_n (pc := 26) dH_takeBack_26 rfl ?_
  refine zs_aload_n (pc := 27) dH_takeBack_27 rfl ?_
  refine zs_get (pc := 28) dH_takeBack_28 fH_13 (by first | exact g1 | exact zu_s | exact g2') (by rfl) ?_
  refine zs_aload_n (pc := 31) dH_takeBack_31 rfl ?_
  refine zs_get (pc := 32) dH_takeBack_32 fH_17 (by first | exact g1 | exact zu_s | exact g2') (by rfl) ?_
  refine zn_aald (pc := 35) (Or.inr rfl) dH_takeBack_35 (by first | exact g1 | exact zu_s | exact g2') (by omega) (by decide) (by rfl) ?_
  refine zcVQ_1 (pc := 36) (d2 := d - 1) (s_C_copyFrom hl (by omega) hC2 hC hp2 hp hI.1 (by omega)) dH_takeBack_36 kH_25 mdC_copyFrom miC_copyFrom mvC_copyFrom rfl (by exact hC2.1) rfl (Nat.le_of_ble_eq_true rfl) (by omega) (by omega) (by omega) (fun v h1 n1 hq => ?_) (fun E h1 n1 hq => ?_)
  · obtain ⟨hv, rfl, hf, Q', hC', he⟩ := hq
    obtain rfl := Sum.inl.inj hv
    refine zs_vret (pc := 39) dH_takeBack_39 rfl (by omega) (by omega) (⟨rfl, rfl, fun q q1 q2 => by rw [hf _ (by omega), zu_n (by omega)], ⟨P c, (m + 8) % 9, G, by omega, by omega, by rw [hf _ (by omega)]; exact zu_s, by rw [hf _ (by omega)]; exact g2', fun j hj => ⟨((g3 j hj).1.fr hfz (by omega)).fr hf (by omega), (g3 j hj).2⟩, fun k hk => ?_, h4⟩, CR.cp hp2 hA hI hC' he⟩)
    rw [← g4 k (by omega)]
    congr 1
    omega
  · exact absurd hq.1 (by intro q; cases q)
theorem s_H_forget {Γ : zG} {l : Launch} (hl : l.stackTraces = false) {d : Nat} {h : zH} {n : Nat} {B a c : Nat} {P : Nat → Nat → Nat} (hH : HR B h a P c) : zC Γ l d mH_forget [.ref a] h n 0 0 (fun o h1 n1 => o = .inl none ∧ n1 = n ∧ zfr a 380 h h1 ∧ HR B h1 a P 0) := by
  obtain ⟨M, m, G, m9, c8, g1, g2, g3, g4, g5⟩ := hH
  have hfz : zfr a 1 h (zu h a (zHo a m 0)) := zfr.u (by omega) (by omega)
  refine zC_of (ls := [some (.ref a)]) hl (by decide +kernel) rfl (Nat.le_of_ble_eq_true rfl) rfl ?_
  refine zs_aload_n (pc := 0) dH_forget_0 rfl ?_
  refine zs_iconst (pc := 1) dH_forget_1 zi_0 ?_
  refine zs_put (pc := 2) (fs2 := [_, _, _]) dH_forget_2 fH_21 (by first | exact g1 | exact zu_s) (by rfl) (by rfl) (by exact Nat.le_of_ble_eq_true rfl) (by rfl) ?_
  exact zs_vret (pc := 5) dH_forget_5 rfl (by omega) (by omega) (⟨rfl, rfl, zfr.u (by omega) (by omega), M, m, G, m9, by omega, zu_s, by rw [zu_n (by omega)]; exact g2, fun j hj => ⟨(g3 j hj).1.fr hfz (by omega), (g3 j hj).2⟩, fun k hk => absurd hk (by omega), g5⟩)

