/-! the parser: arguments, words, commands -/
/-- what reading leaves: the answer, the place, some arrays that are as before below m -/
def zAq (a : Nat) (h : zH) (n9 : Nat) (T : Nat → Nat) (n m po : Nat) (b : Bool) (G : (Nat → Nat) → (Nat → Nat) → (Nat → Nat) → Prop) : zQ := fun oc h1 n1 => oc = .inl (some (.int (nI (zb b)))) ∧ n1 = n9 ∧ zfr a 5 h h1 ∧ ∃ v c K F S, PH h1 a T n po v c m K F S ∧ G K F S
theorem s_P_readFirst {Γ : zG} {l : Launch} (hl : l.stackTraces = false) {d : Nat} (hd : 2 ≤ d) {h : zH} {n9 : Nat} {a n po v c m mo : Nat} {T K F S : Nat → Nat} (hT : PH h a T n po v c m K F S) (hn : n ≤ 60) (hpo : po ≤ n) (hc : ∀ i, i < n → T i < 128) (hmo : mo ≤ 3) (hm : m < 15) : zC Γ l d mP_readFirst [.ref a, .int (nI mo)] h n9 0 0 (zAq a h n9 T n m (zrn T n mo po).2.1 (zrn T n mo po).1 (fun K2 F2 S2 => K2 = K ∧ S2 = S ∧ F2 = if (zrn T n mo po).1 = true then zup F m (zrn T n mo po).2.2.2 else F)) := by
  refine zC_of (ls := [some (.ref a), some (.int (nI mo))]) hl (by decide +kernel) rfl (Nat.le_of_ble_eq_true rfl) rfl ?_
  refine zs_aload_n (pc := 0) dP_readFirst_0 rfl ?_
  refine zs_iload_n (pc := 1) dP_readFirst_1 rfl ?_
  refine zcVQ_1 (pc := 2) (d2 := d - 1) (s_P_readNumber hl (by omega) hT hn hpo hc hmo) dP_readFirst_2 kP_108 mdP_readNumber miP_readNumber mvP_readNumber rfl (by exact hT.1) rfl (Nat.le_of_ble_eq_true rfl) (by omega) (by omega) (by omega) (fun v h1 n1 hq => ?_) (fun E h1 n1 hq => ?_)
  · obtain ⟨hv, rfl, hf, hT⟩ := hq
    obtain rfl := Sum.inl.inj hv
    generalize zrn T n mo po = o at hT ⊢
    obtain ⟨b, po2, c2, v2⟩ := o
    cases b with
    | false =>
      refine zs_if_ne (pc := 5) 10 dP_readFirst_5 rfl (fun h9 => absurd h9 (fun q => q rfl)) (fun _ => ?_)
      refine zs_iconst (pc := 8) dP_readFirst_8 zi_0 ?_
      exact zs_iret (pc := 9) dP_readFirst_9 rfl rfl (by omega) (by omega) (⟨rfl, rfl, hf, _, _, K, F, S, hT, rfl, rfl, rfl⟩)
    | true =>
      refine zs_if_ne (pc := 5) 10 dP_readFirst_5 rfl (fun _ => ?_) (fun h9 => absurd h9 (fun q => absurd (show nI 1 = 0 from q) (by decide)))
      refine zs_aload_n (pc := 10) dP_readFirst_10 rfl ?_
      refine zs_get (pc := 11) dP_readFirst_11 fP_32 (by first | exact hT.1 | exact hT.2.1 | exact hT.2.2.2.1) (by rfl) ?_
      refine zs_aload_n (pc := 14) dP_readFirst_14 rfl ?_
      refine zs_get (pc := 15) dP_readFirst_15 fP_38 (by first | exact hT.1 | exact hT.2.1 | exact hT.2.2.2.1) (by rfl) ?_
      refine zs_aload_n (pc := 18) dP_readFirst_18 rfl ?_
      refine zs_get (pc := 19) dP_readFirst_19 fP_22 (by first | exact hT.1 | exact hT.2.1 | exact hT.2.2.2.1) (by rfl) ?_
      refine zn_iast (pc := 22) dP_readFirst_22 (by first | exact hT.1 | exact hT.2.1 | exact hT.2.2.2.1) (by omega) (by first | decide | assumption) ?_
      refine zs_iconst (pc := 23) dP_readFirst_23 zi_1 ?_
      exact zs_iret (pc := 24) dP_readFirst_24 rfl rfl (by omega) (by omega) (⟨rfl, rfl, hf.tr (zfr.u (by omega) (by omega)), _, _, K, _, S, hT.F, rfl, rfl, rfl⟩)
  · exact absurd hq.1 (by intro q; cases q)
theorem s_P_readSecond {Γ : zG} {l : Launch} (hl : l.stackTraces = false) {d : Nat} (hd : 2 ≤ d) {h : zH} {n9 : Nat} {a n po v c m : Nat} {T K F S : Nat → Nat} (hT : PH h a T n po v c m K F S) (hn : n ≤ 60) (hpo : po ≤ n) (hc : ∀ i, i < n → T i < 128) (hm : m < 15) : zC Γ l d mP_readSecond [.ref a] h n9 0 0 (zAq a h n9 T n m (zrn T n 3 po).2.1 (zrn T n 3 po).1 (fun K2 F2 S2 => K2 = K ∧ F2 = F ∧ S2 = if (zrn T n 3 po).1 = true then zup S m (zrn T n 3 po).2.2.2 else S)) := by
  refine zC_of (ls := [some (.ref a)]) hl (by decide +kernel) rfl (Nat.le_of_ble_eq_true rfl) rfl ?_
  refine zs_aload_n (pc := 0) dP_readSecond_0 rfl ?_
  refine zs_iconst (pc := 1) dP_readSecond_1 zi_3 ?_
  refine zcVQ_1 (pc := 2) (d2 := d - 1) (s_P_readNumber (mo := 3) hl (by omega) hT hn hpo hc (by decide)) dP_readSecond_2 kP_108 mdP_readNumber miP_readNumber mvP_readNumber rfl (by exact hT.1) rfl (Nat.le_of_ble_eq_true rfl) (by omega) (by omega) (by omega) (fun v h1 n1 hq => ?_) (fun E h1 n1 hq => ?_)
  · obtain ⟨hv, rfl, hf, hT⟩ := hq
    obtain rfl := Sum.inl.inj hv
    generalize zrn T n 3 po = o at hT ⊢
    obtain ⟨b, po2, c2, v2⟩ := o
    cases b with
    | false =>
      refine zs_if_ne (pc := 5) 10 dP_readSecond_5 rfl (fun h9 => absurd h9 (fun q => q rfl)) (fun _ => ?_)
      refine zs_iconst (pc := 8) dP_readSecond_8 zi_0 ?_
      exact zs_iret (pc := 9) dP_readSecond_9 rfl rfl (by omega) (by omega) (⟨rfl, rfl, hf, _, _, K, F, S, hT, rfl, rfl, rfl⟩)
    | true =>
      refine zs_if_ne (pc := 5) 10 dP_readSecond_5 rfl (fun _ => ?_) (fun h9 => absurd h9 (fun q => absurd (show nI 1 = 0 from q) (by decide)))
      refine zs_aload_n (pc := 10) dP_readSecond_10 rfl ?_
      refine zs_get (pc := 11) dP_readSecond_11 fP_35 (by first | exact hT.1 | exact hT.2.1 | exact hT.2.2.2.2) (by rfl) ?_
      refine zs_aload_n (pc := 14) dP_readSecond_14 rfl ?_
      refine zs_get (pc := 15) dP_readSecond_15 fP_38 (by first | exact hT.1 | exact hT.2.1 | exact hT.2.2.2.2) (by rfl) ?_
      refine zs_aload_n (pc := 18) dP_readSecond_18 rfl ?_
      refine zs_get (pc := 19) dP_readSecond_19 fP_22 (by first | exact hT.1 | exact hT.2.1 | exact hT.2.2.2.2) (by rfl) ?_
      refine zn_iast (pc := 22) dP_readSecond_22 (by first | exact hT.1 | exact hT.2.1 | exact hT.2.2.2.2) (by omega) (by first | decide | assumption) ?_
      refine zs_iconst (pc := 23) dP_readSecond_23 zi_1 ?_
      exact zs_iret (pc := 24) dP_readSecond_24 rfl rfl (by omega) (by omega) (⟨rfl, rfl, hf.tr (zfr.u (by omega) (by omega)), _, _, K, F, _, hT.S, rfl, rfl, rfl⟩)
  · exact absurd hq.1 (by intro q; cases q)
theorem s_P_readPrefix {Γ : zG} {l : Launch} (hl : l.stackTraces = false) {d : Nat} (hd : 2 ≤ d) {h : zH} {n9 : Nat} {a n po v c m : Nat} {T K F S : Nat → Nat} (hT : PH h a T n po v c m K F S) (hn : n ≤ 60) (hpo : po ≤ n) (hc : ∀ i, i < n → T i < 128) (hm : m < 15) : zC Γ l d mP_readPrefix [.ref a] h n9 0 0 (zAq a h n9 T n m (zrn T n 3 po).2.1 (zrn T n 3 po).1 (fun K2 F2 S2 => K2 = K ∧ (F2 = if (zrn T n 3 po).1 = true then zup F m (zrn T n 3 po).2.2.1 else F) ∧ S2 = if (zrn T n 3 po).1 = true then zup S m (zrn T n 3 po).2.2.2 else S)) := by
  refine zC_of (ls := [some (.ref a)]) hl (by decide +kernel) rfl (Nat.le_of_ble_eq_true rfl) rfl ?_
  refine zs_aload_n (pc := 0) dP_readPrefix_0 rfl ?_
  refine zs_iconst (pc := 1) dP_readPrefix_1 zi_3 ?_
  refine zcVQ_1 (pc := 2) (d2 := d - 1) (s_P_readNumber (mo := 3) hl (by omega) hT hn hpo hc (by decide)) dP_readPrefix_2 kP_108 mdP_readNumber miP_readNumber mvP_readNumber rfl (by exact hT.1) rfl (Nat.le_of_ble_eq_true rfl) (by omega) (by omega) (by omega) (fun v h1 n1 hq => ?_) (fun E h1 n1 hq => ?_)
  · obtain ⟨hv, rfl, hf, hT⟩ := hq
    obtain rfl := Sum.inl.inj hv
    generalize zrn T n 3 po = o at hT ⊢
    obtain ⟨b, po2, c2, v2⟩ := o
    cases b with
    | false =>
      refine zs_if_ne (pc := 5) 10 dP_readPrefix_5 rfl (fun h9 => absurd h9 (fun q => q rfl)) (fun _ => ?_)
      refine zs_iconst (pc := 8) dP_readPrefix_8 zi_0 ?_
      exact zs_iret (pc := 9) dP_readPrefix_9 rfl rfl (by omega) (by omega) (⟨rfl, rfl, hf, _, _, K, F, S, hT, rfl, rfl, rfl⟩)
    | true =>
      have hT2 := hT.F (F2 := zup F m c2)
      refine zs_if_ne (pc := 5) 10 dP_readPrefix_5 rfl (fun _ => ?_) (fun h9 => absurd h9 (fun q => absurd (show nI 1 = 0 from q) (by decide)))
      refine zs_aload_n (pc := 10) dP_readPrefix_10 rfl ?_
      refine zs_get (pc := 11) dP_readPrefix_11 fP_32 (by first | exact hT.1 | exact hT.2.1 | exact hT.2.2.2.1 | exact hT2.1 | exact hT2.2.2.2.2) (by rfl) ?_
      refine zs_aload_n (pc := 14) dP_readPrefix_14 rfl ?_
      refine zs_get (pc := 15) dP_readPrefix_15 fP_38 (by first | exact hT.1 | exact hT.2.1 | exact hT.2.2.2.1 | exact hT2.1 | exact hT2.2.2.2.2) (by rfl) ?_
      refine zs_aload_n (pc := 18) dP_readPrefix_18 rfl ?_
      refine zs_get (pc := 19) dP_readPrefix_19 fP_25 (by first | exact hT.1 | exact hT.2.1 | exact hT.2.2.2.1 | exact hT2.1 | exact hT2.2.2.2.2) (by rfl) ?_
      refine zn_iast (pc := 22) dP_readPrefix_22 (by first | exact hT.1 | exact hT.2.1 | exact hT.2.2.2.1 | exact hT2.1 | exact hT2.2.2.2.2) (by omega) (by first | decide | assumption) ?_
      refine zs_aload_n (pc := 23) dP_readPrefix_23 rfl ?_
      refine zs_get (pc := 24) dP_readPrefix_24 fP_35 (by first | exact hT.1 | exact hT.2.1 | exact hT.2.2.2.1 | exact hT2.1 | exact hT2.2.2.2.2) (by rfl) ?_
      refine zs_aload_n (pc := 27) dP_readPrefix_27 rfl ?_
      refine zs_get (pc := 28) dP_readPrefix_28 fP_38 (by first | exact hT.1 | exact hT.2.1 | exact hT.2.2.2.1 | exact hT2.1 | exact hT2.2.2.2.2) (by rfl) ?_
      refine zs_aload_n (pc := 31) dP_readPrefix_31 rfl ?_
      refine zs_get (pc := 32) dP_readPrefix_32 fP_22 (by first | exact hT.1 | exact hT.2.1 | exact hT.2.2.2.1 | exact hT2.1 | exact hT2.2.2.2.2) (by rfl) ?_
      refine zn_iast (pc := 35) dP_readPrefix_35 (by first | exact hT.1 | exact hT.2.1 | exact hT.2.2.2.1 | exact hT2.1 | exact hT2.2.2.2.2) (by omega) (by first | decide | assumption) ?_
      refine zs_iconst (pc := 36) dP_readPrefix_36 zi_1 ?_
      exact zs_iret (pc := 37) dP_readPrefix_37 rfl rfl (by omega) (by omega) (⟨rfl, rfl, hf.tr ((zfr.u (by omega) (by omega)).tr (zfr.u (by omega) (by omega))), _, _, K, _, _, hT2.S, rfl, rfl, rfl⟩)
  · exact absurd hq.1 (by intro q; cases q)
theorem lp_P_matchedLetters {Γ : zG} {l : Launch} (hl : l.stackTraces = false) {d : Nat} (hd : 4 ≤ d) {h : zH} {n9 : Nat} {a n po v c m i : Nat} {T K F S : Nat → Nat} (hT : PH h a T n po v c m K F S) (hn : n ≤ 60) (hpo : po ≤ n) (hc : ∀ i, i < n → T i < 128) (hi : i < 10) : ∀ f j, f + j = zwl i → Z Γ l mP_matchedLetters d 0 0 (zFin Γ (zR (some (.int (nI (zlk T n po i f j)))) h n9) 0 0) 2 [some (.ref a), some (.ref (zgK Γ i)), some (.int (nI j))] [] h n9 0 0 := by
  obtain ⟨-, l4, l7⟩ := zwl_ok i hi
  intro f
  induction f with
  | zero =>
    intro j hf
    refine zs_iload_n (pc := 2) dP_matchedLetters_2 rfl ?_
    refine zs_aload_n (pc := 3) dP_matchedLetters_3 rfl ?_
    refine zcVK1_0 (pc := 4) (d2 := d - 1) (s_S_length hl (by omega) hi) dP_matchedLetters_4 kP_65 mdS_length miS_length mvS_length rfl (by omega) rfl (Nat.le_of_ble_eq_true rfl) (by omega) (by omega) (by omega) ?_
    refine zn_icmp_ge (pc := 7) 48 dP_matchedLetters_7 rfl (by omega) (by omega) (fun _ => ?_) (fun h9 => absurd h9 (by omega))
    refine zs_iload_n (pc := 48) dP_matchedLetters_48 rfl ?_
    exact zs_iret (pc := 49) dP_matchedLetters_49 rfl rfl (by omega) (by omega) (⟨rfl, rfl, rfl⟩)
  | succ f ih =>
    intro j hf
    have hz := ih (j + 1) (by omega)
    by_cases e1 : po + j < n
    · have hcc := hc _ e1
      have hcw := zwc_lt i hi j (by omega)
      by_cases e2 : zwc i j = T (po + j)
      · have e : zlk T n po i (f + 1) j = zlk T n po i f (j + 1) := if_pos ⟨by omega, e1, e2⟩
        rw [e]
        refine zs_iload_n (pc := 2) dP_matchedLetters_2 rfl ?_
        refine zs_aload_n (pc := 3) dP_matchedLetters_3 rfl ?_
        refine zcVK1_0 (pc := 4) (d2 := d - 1) (s_S_length hl (by omega) hi) dP_matchedLetters_4 kP_65 mdS_length miS_length mvS_length rfl (by omega) rfl (Nat.le_of_ble_eq_true rfl) (by omega) (by omega) (by omega) ?_
        refine zn_icmp_ge (pc := 7) 48 dP_matchedLetters_7 rfl (by omega) (by omega) (fun h9 => absurd h9 (by omega)) (fun _ => ?_)
        refine zs_aload_n (pc := 10) dP_matchedLetters_10 rfl ?_
        refine zs_get (pc := 11) dP_matchedLetters_11 fP_19 (by first | exact hT.1 | exact hT.2.1) (by rfl) ?_
        refine zs_iload_n (pc := 14) dP_matchedLetters_14 rfl ?_
        refine zn_iadd (pc := 15) dP_matchedLetters_15 ?_
        refine zs_aload_n (pc := 16) dP_matchedLetters_16 rfl ?_
        refine zs_get (pc := 17) dP_matchedLetters_17 fP_15 (by first | exact hT.1 | exact hT.2.1) (by rfl) ?_
        refine zn_icmp_ge (pc := 20) 48 dP_matchedLetters_20 rfl (by omega) (by omega) (fun h9 => absurd h9 (by omega)) (fun _ => ?_)
        refine zs_aload_n (pc := 23) dP_matchedLetters_23 rfl ?_
        refine zs_iload_n (pc := 24) dP_matchedLetters_24 rfl ?_
        refine zcVK1_1 (pc := 25) (d2 := d - 1) (s_S_charAt hl (by omega) hi (by omega)) dP_matchedLetters_25 kP_75 mdS_charAt miS_charAt mvS_charAt rfl (by omega) rfl (Nat.le_of_ble_eq_true rfl) (by omega) (by omega) (by omega) ?_
        refine zs_aload_n (pc := 28) dP_matchedLetters_28 rfl ?_
        refine zs_get (pc := 29) dP_matchedLetters_29 fP_9 (by first | exact hT.1 | exact hT.2.1) (by rfl) ?_
        refine zs_aload_n (pc := 32) dP_matchedLetters_32 rfl ?_
        refine zs_get (pc := 33) dP_matchedLetters_33 fP_19 (by first | exact hT.1 | exact hT.2.1) (by rfl) ?_
        refine zs_iload_n (pc := 36) dP_matchedLetters_36 rfl ?_
        refine zn_iadd (pc := 37) dP_matchedLetters_37 ?_
        refine zn_cald (pc := 38) dP_matchedLetters_38 (by first | exact hT.1 | exact hT.2.1) (by omega) (by first | decide | assumption) ?_
        refine zn_icmp_ne (pc := 39) 48 dP_matchedLetters_39 rfl (by omega) (by omega) (fun h9 => absurd h9 (fun q => q e2)) (fun _ => ?_)
        refine zn_iinc (pc := 42) (ls2 := [_, _, _]) dP_matchedLetters_42 rfl (Nat.le_of_ble_eq_true rfl) rfl ?_
        refine zs_goto (pc := 45) 2 dP_matchedLetters_45 rfl ?_
        exact hz
      · have e : zlk T n po i (f + 1) j = j := if_neg (fun q => e2 q.2.2)
        rw [e]
        refine zs_iload_n (pc := 2) dP_matchedLetters_2 rfl ?_
        refine zs_aload_n (pc := 3) dP_matchedLetters_3 rfl ?_
        refine zcVK1_0 (pc := 4) (d2 := d - 1) (s_S_length hl (by omega) hi) dP_matchedLetters_4 kP_65 mdS_length miS_length mvS_length rfl (by omega) rfl (Nat.le_of_ble_eq_true rfl) (by omega) (by omega) (by omega) ?_
        refine zn_icmp_ge (pc := 7) 48 dP_matchedLetters_7 rfl (by omega) (by omega) (fun h9 => absurd h9 (by omega)) (fun _ => ?_)
        refine zs_aload_n (pc := 10) dP_matchedLetters_10 rfl ?_
        refine zs_get (pc := 11) dP_matchedLetters_11 fP_19 (by first | exact hT.1 | exact hT.2.1) (by rfl) ?_
        refine zs_iload_n (pc := 14) dP_matchedLetters_14 rfl ?_
        refine zn_iadd (pc := 15) dP_matchedLetters_15 ?_
        refine zs_aload_n (pc := 16) dP_matchedLetters_16 rfl ?_
        refine zs_get (pc := 17) dP_matchedLetters_17 fP_15 (by first | exact hT.1 | exact hT.2.1) (by rfl) ?_
        refine zn_icmp_ge (pc := 20) 48 dP_matchedLetters_20 rfl (by omega) (by omega) (fun h9 => absurd h9 (by omega)) (fun _ => ?_)
        refine zs_aload_n (pc := 23) dP_matchedLetters_23 rfl ?_
        refine zs_iload_n (pc := 24) dP_matchedLetters_24 rfl ?_
        refine zcVK1_1 (pc := 25) (d2 := d - 1) (s_S_charAt hl (by omega) hi (by omega)) dP_matchedLetters_25 kP_75 mdS_charAt miS_charAt mvS_charAt rfl (by omega) rfl (Nat.le_of_ble_eq_true rfl) (by omega) (by omega) (by omega) ?_
        refine zs_aload_n (pc := 28) dP_matchedLetters_28 rfl ?_
        refine zs_get (pc := 29) dP_matchedLetters_29 fP_9 (by first | exact hT.1 | exact hT.2.1) (by rfl) ?_
        refine zs_aload_n (pc := 32) dP_matchedLetters_32 rfl ?_
        refine zs_get (pc := 33) dP_matchedLetters_33 fP_19 (by first | exact hT.1 | exact hT.2.1) (by rfl) ?_
        refine zs_iload_n (pc := 36) dP_matchedLetters_36 rfl ?_
        refine zn_iadd (pc := 37) dP_matchedLetters_37 ?_
        refine zn_cald (pc := 38) dP_matchedLetters_38 (by first | exact hT.1 | exact hT.2.1) (by omega) (by first | decide | assumption) ?_
        refine zn_icmp_ne (pc := 39) 48 dP_matchedLetters_39 rfl (by omega) (by omega) (fun _ => ?_) (fun h9 => absurd h9 (e2))
        refine zs_iload_n (pc := 48) dP_matchedLetters_48 rfl ?_
        exact zs_iret (pc := 49) dP_matchedLetters_49 rfl rfl (by omega) (by omega) (⟨rfl, rfl, rfl⟩)
    · have e : zlk T n po i (f + 1) j = j := if_neg (fun q => e1 q.2.1)
      rw [e]
      refine zs_iload_n (pc := 2) dP_matchedLetters_2 rfl ?_
      refine zs_aload_n (pc := 3) dP_matchedLetters_3 rfl ?_
      refine zcVK1_0 (pc := 4) (d2 := d - 1) (s_S_length hl (by omega) hi) dP_matchedLetters_4 kP_65 mdS_length miS_length mvS_length rfl (by omega) rfl (Nat.le_of_ble_eq_true rfl) (by omega) (by omega) (by omega) ?_
      refine zn_icmp_ge (pc := 7) 48 dP_matchedLetters_7 rfl (by omega) (by omega) (fun h9 => absurd h9 (by omega)) (fun _ => ?_)
      refine zs_aload_n (pc := 10) dP_matchedLetters_10 rfl ?_
      refine zs_get (pc := 11) dP_matchedLetters_11 fP_19 (by first | exact hT.1 | exact hT.2.1) (by rfl) ?_
      refine zs_iload_n (pc := 14) dP_matchedLetters_14 rfl ?_
      refine zn_iadd (pc := 15) dP_matchedLetters_15 ?_
      refine zs_aload_n (pc := 16) dP_matchedLetters_16 rfl ?_
      refine zs_get (pc := 17) dP_matchedLetters_17 fP_15 (by first | exact hT.1 | exact hT.2.1) (by rfl) ?_
      refine zn_icmp_ge (pc := 20) 48 dP_matchedLetters_20 rfl (by omega) (by omega) (fun _ => ?_) (fun h9 => absurd h9 (by omega))
      refine zs_iload_n (pc := 48) dP_matchedLetters_48 rfl ?_
      exact zs_iret (pc := 49) dP_matchedLetters_49 rfl rfl (by omega) (by omega) (⟨rfl, rfl, rfl⟩)
theorem s_P_matchedLetters {Γ : zG} {l : Launch} (hl : l.stackTraces = false) {d : Nat} (hd : 4 ≤ d) {h : zH} {n9 : Nat} {a n po v c m i : Nat} {T K F S : Nat → Nat} (hT : PH h a T n po v c m K F S) (hn : n ≤ 60) (hpo : po ≤ n) (hc : ∀ i, i < n → T i < 128) (hi : i < 10) : zC Γ l d mP_matchedLetters [.ref a, .ref (zgK Γ i)] h n9 0 0 (zR (some (.int (nI (zlike T n po i)))) h n9) := by
  refine zC_of (ls := [some (.ref a), some (.ref (zgK Γ i)), none]) hl (by decide +kernel) rfl (Nat.le_of_ble_eq_true rfl) rfl ?_
  refine zs_iconst (pc := 0) dP_matchedLetters_0 zi_0 ?_
  refine zs_istore_n (pc := 1) (ls2 := [_, _, _]) dP_matchedLetters_1 (Nat.le_of_ble_eq_true rfl) rfl ?_
  exact lp_P_matchedLetters hl hd hT hn hpo hc hi (zwl i) 0 rfl
/-- a kind, or -1 -/
def zkd (k : Nat) : Int32 := if k = 10 then -1 else nI k
theorem lp_P_readWord {Γ : zG} {l : Launch} (hl : l.stackTraces = false) {d : Nat} (hd : 5 ≤ d) {h : zH} {n9 : Nat} {a n po v c m : Nat} {T K F S : Nat → Nat} (hT : PH h a T n po v c m K F S) (hn : n ≤ 60) (hpo : po ≤ n) (hc : ∀ i, i < n → T i < 128) : ∀ f k b, k + f = 10 → b ≤ 7 → ∀ x3 x4 : Option Value, Z Γ l mP_readWord d 0 0 (zFin Γ (zR (some (.int (zkd (zwd T n po f k b).1))) (zu h a (zPo a n (po + (zwd T n po f k b).2) v c m)) n9) 0 0) 4 [some (.ref a), some (.int (nI b)), some (.int (nI k)), x3, x4] [] h n9 0 0 := by
  intro f
  induction f with
  | zero =>
    intro k b hk hb x3 x4
    refine zs_iload_n (pc := 4) dP_readWord_4 rfl ?_
    refine zs_bipush (pc := 5) dP_readWord_5 (zi_b 10 (by decide)) ?_
    refine zn_icmp_ge (pc := 7) 57 dP_readWord_7 rfl (by omega) (by omega) (fun _ => ?_) (fun h9 => absurd h9 (by omega))
    refine zs_aload_n (pc := 57) dP_readWord_57 rfl ?_
    refine zs_dup (pc := 58) dP_readWord_58 rfl ?_
    refine zs_get (pc := 59) dP_readWord_59 fP_19 (by first | exact hT.1 | exact zu_s) (by rfl) ?_
    refine zs_iload_n (pc := 62) dP_readWord_62 rfl ?_
    refine zn_iadd (pc := 63) dP_readWord_63 ?_
    refine zs_put (pc := 64) (fs2 := [_, _, _, _, _, _, _, _, _]) dP_readWord_64 fP_19 (by first | exact hT.1 | exact zu_s) (by rfl) (by rfl) (by exact Nat.le_of_ble_eq_true rfl) (by rfl) ?_
    refine zs_iconst (pc := 67) dP_readWord_67 zi_m1 ?_
    exact zs_iret (pc := 68) dP_readWord_68 rfl rfl (by omega) (by omega) (⟨rfl, rfl, rfl⟩)
  | succ f ih =>
    intro k b hk hb x3 x4
    obtain ⟨-, l4, l7⟩ := zwl_ok k (by omega)
    have hle := zlike_le (T := T) (n := n) (po := po) (i := k)
    by_cases e : zlike T n po k = zwl k
    · have ez : zwd T n po (f + 1) k b = (k, zwl k) := if_pos e
      rw [ez]
      refine zs_iload_n (pc := 4) dP_readWord_4 rfl ?_
      refine zs_bipush (pc := 5) dP_readWord_5 (zi_b 10 (by decide)) ?_
      refine zn_icmp_ge (pc := 7) 57 dP_readWord_7 rfl (by omega) (by omega) (fun h9 => absurd h9 (by omega)) (fun _ => ?_)
      refine zs_iload_n (pc := 10) dP_readWord_10 rfl ?_
      refine zcS1_1 (pc := 11) (d2 := d - 1) (s_P_wordOf hl (by omega)) dP_readWord_11 kP_57 mdP_wordOf msP_wordOf rfl (Nat.le_of_ble_eq_true rfl) (by omega) (by omega) (by omega) ?_
      refine zs_astore_n (pc := 14) (ls2 := [_, _, _, _, _]) dP_readWord_14 (Nat.le_of_ble_eq_true rfl) rfl ?_
      refine zs_aload_n (pc := 15) dP_readWord_15 rfl ?_
      refine zs_aload_n (pc := 16) dP_readWord_16 rfl ?_
      refine zcV1_1 (pc := 17) (d2 := d - 1) (s_P_matchedLetters hl (by omega) hT hn hpo hc (by omega)) dP_readWord_17 kP_61 mdP_matchedLetters miP_matchedLetters mvP_matchedLetters rfl (by exact hT.1) rfl (Nat.le_of_ble_eq_true rfl) (by omega) (by omega) (by omega) ?_
      refine zs_istore (pc := 20) (ls2 := [_, _, _, _, _]) dP_readWord_20 (Nat.le_of_ble_eq_true rfl) rfl ?_
      refine zs_iload (pc := 22) dP_readWord_22 rfl ?_
      refine zs_aload_n (pc := 24) dP_readWord_24 rfl ?_
      refine zcVK1_0 (pc := 25) (d2 := d - 1) (s_S_length hl (by omega) (by omega)) dP_readWord_25 kP_65 mdS_length miS_length mvS_length rfl (by omega) rfl (Nat.le_of_ble_eq_true rfl) (by omega) (by omega) (by omega) ?_
      refine zn_icmp_ne (pc := 28) 44 dP_readWord_28 rfl (by omega) (by omega) (fun h9 => absurd h9 (fun q => q e)) (fun _ => ?_)
      refine zs_aload_n (pc := 31) dP_readWord_31 rfl ?_
      refine zs_dup (pc := 32) dP_readWord_32 rfl ?_
      refine zs_get (pc := 33) dP_readWord_33 fP_19 (by first | exact hT.1 | exact zu_s) (by rfl) ?_
      refine zs_iload (pc := 36) dP_readWord_36 rfl ?_
      refine zn_iadd (pc := 38) dP_readWord_38 ?_
      refine zs_put (pc := 39) (fs2 := [_, _, _, _, _, _, _, _, _]) dP_readWord_39 fP_19 (by first | exact hT.1 | exact zu_s) (by rfl) (by rfl) (by exact Nat.le_of_ble_eq_true rfl) (by rfl) ?_
      refine zs_iload_n (pc := 42) dP_readWord_42 rfl ?_
      have ek : nI k = zkd k := by unfold zkd; rw [if_neg (by omega)]
      rw [ek, e]
      exact zs_iret (pc := 43) dP_readWord_43 rfl rfl (by omega) (by omega) (⟨rfl, rfl, rfl⟩)
    · have ez : zwd T n po (f + 1) k b = zwd T n po f (k + 1) (max b (zlike T n po k)) := if_neg e
      rw [ez]
      refine zs_iload_n (pc := 4) dP_readWord_4 rfl ?_
      refine zs_bipush (pc := 5) dP_readWord_5 (zi_b 10 (by decide)) ?_
      refine zn_icmp_ge (pc := 7) 57 dP_readWord_7 rfl (by omega) (by omega) (fun h9 => absurd h9 (by omega)) (fun _ => ?_)
      refine zs_iload_n (pc := 10) dP_readWord_10 rfl ?_
      refine zcS1_1 (pc := 11) (d2 := d - 1) (s_P_wordOf hl (by omega)) dP_readWord_11 kP_57 mdP_wordOf msP_wordOf rfl (Nat.le_of_ble_eq_true rfl) (by omega) (by omega) (by omega) ?_
      refine zs_astore_n (pc := 14) (ls2 := [_, _, _, _, _]) dP_readWord_14 (Nat.le_of_ble_eq_true rfl) rfl ?_
      refine zs_aload_n (pc := 15) dP_readWord_15 rfl ?_
      refine zs_aload_n (pc := 16) dP_readWord_16 rfl ?_
      refine zcV1_1 (pc := 17) (d2 := d - 1) (s_P_matchedLetters hl (by omega) hT hn hpo hc (by omega)) dP_readWord_17 kP_61 mdP_matchedLetters miP_matchedLetters mvP_matchedLetters rfl (by exact hT.1) rfl (Nat.le_of_ble_eq_true rfl) (by omega) (by omega) (by omega) ?_
      refine zs_istore (pc := 20) (ls2 := [_, _, _, _, _]) dP_readWord_20 (Nat.le_of_ble_eq_true rfl) rfl ?_
      refine zs_iload (pc := 22) dP_readWord_22 rfl ?_
      refine zs_aload_n (pc := 24) dP_readWord_24 rfl ?_
      refine zcVK1_0 (pc := 25) (d2 := d - 1) (s_S_length hl (by omega) (by omega)) dP_readWord_25 kP_65 mdS_length miS_length mvS_length rfl (by omega) rfl (Nat.le_of_ble_eq_true rfl) (by omega) (by omega) (by omega) ?_
      refine zn_icmp_ne (pc := 28) 44 dP_readWord_28 rfl (by omega) (by omega) (fun _ => ?_) (fun h9 => absurd h9 (e))
      refine zs_iload_n (pc := 44) dP_readWord_44 rfl ?_
      refine zs_iload (pc := 45) dP_readWord_45 rfl ?_
      refine zn_mmax (pc := 47) dP_readWord_47 kP_69 (Nat.le_of_ble_eq_true rfl) (by omega) (by omega) (by omega) (by omega) ?_
      refine zs_istore_n (pc := 50) (ls2 := [_, _, _, _, _]) dP_readWord_50 (Nat.le_of_ble_eq_true rfl) rfl ?_
      refine zn_iinc (pc := 51) (ls2 := [_, _, _, _, _]) dP_readWord_51 rfl (Nat.le_of_ble_eq_true rfl) rfl ?_
      refine zs_goto (pc := 54) 4 dP_readWord_54 rfl ?_
      exact ih (k + 1) _ (by omega) (by omega) _ _
theorem s_P_readWord {Γ : zG} {l : Launch} (hl : l.stackTraces = false) {d : Nat} (hd : 5 ≤ d) {h : zH} {n9 : Nat} {a n po v c m : Nat} {T K F S : Nat → Nat} (hT : PH h a T n po v c m K F S) (hn : n ≤ 60) (hpo : po ≤ n) (hc : ∀ i, i < n → T i < 128) : zC Γ l d mP_readWord [.ref a] h n9 0 0 (zR (some (.int (zkd (zwd T n po 10 0 0).1))) (zu h a (zPo a n (po + (zwd T n po 10 0 0).2) v c m)) n9) := by
  refine zC_of (ls := [some (.ref a), none, none, none, none]) hl (by decide +kernel) rfl (Nat.le_of_ble_eq_true rfl) rfl ?_
  refine zs_iconst (pc := 0) dP_readWord_0 zi_0 ?_
  refine zs_istore_n (pc := 1) (ls2 := [_, _, _, _, _]) dP_readWord_1 (Nat.le_of_ble_eq_true rfl) rfl ?_
  refine zs_iconst (pc := 2) dP_readWord_2 zi_0 ?_
  refine zs_istore_n (pc := 3) (ls2 := [_, _, _, _, _]) dP_readWord_3 (Nat.le_of_ble_eq_true rfl) rfl ?_
  exact lp_P_readWord hl hd hT hn hpo hc 10 0 0 rfl (by decide) _ _
theorem zF0 {u : Nat → Nat} {m : Nat} (h : u m = 0) : zup u m 0 = u := zup_id h
theorem znarB (b : Bool) : narrow .boolean (.int (nI (zb b))) = .int (nI (zb b)) := by cases b <;> rfl
/-- what reading a command leaves -/
def zQc (a : Nat) (h : zH) (n9 : Nat) (T : Nat → Nat) (n m : Nat) (K F S : Nat → Nat) (o : Bool × Nat × Nat × Nat) : zQ := zAq a h n9 T n m o.2.1 o.1 (fun K2 F2 S2 => o.1 = true → K2 = K ∧ F2 = zup F m o.2.2.1 ∧ S2 = zup S m o.2.2.2)
theorem s_P_readArguments {Γ : zG} {l : Launch} (hl : l.stackTraces = false) {d : Nat} (hd : 3 ≤ d) {h : zH} {n9 : Nat} {a n po v c m k : Nat} {T K F S : Nat → Nat} (hT : PH h a T n po v c m K F S) (hn : n ≤ 60) (hpo : po ≤ n) (hc : ∀ i, i < n → T i < 128) (hm : m < 15) (hk : k < 10) (hF : F m = 0) (hS : S m = 0) : zC Γ l d mP_readArguments [.ref a, .int (nI k)] h n9 0 0 (zQc a h n9 T n m K F S (zpa T n k po)) := by
  have one : ∀ mo, mo ≤ 3 → ∀ pc pc3 : Nat, ∀ (oc : Option Value ⊕ String) (h1 : zH) (n1 : Nat), zAq a h n9 T n m (zrn T n mo po).2.1 (zrn T n mo po).1 (fun K2 F2 S2 => K2 = K ∧ S2 = S ∧ F2 = if (zrn T n mo po).1 = true then zup F m (zrn T n mo po).2.2.2 else F) oc h1 n1 → zQc a h n9 T n m K F S ((zrn T n mo po).1, (zrn T n mo po).2.1, (zrn T n mo po).2.2.2, 0) oc h1 n1 := by
    rintro mo hmo - - oc h1 n1 ⟨g1, g2, g3, v2, c2, K2, F2, S2, g4, rfl, rfl, rfl⟩
    refine ⟨g1, g2, g3, v2, c2, _, _, _, g4, fun q => ⟨rfl, ?_, (zF0 hS).symm⟩⟩
    have q9 : (zrn T n mo po).1 = true := q
    rw [if_pos q9]
  have c1 : ∀ mo, mo = 3 → (k = 3 ∨ k = 4 ∨ k = 9) → zpa T n k po = ((zrn T n mo po).1, (zrn T n mo po).2.1, (zrn T n mo po).2.2.2, 0) := by
    rintro mo rfl hk3
    unfold zpa
    rw [if_neg (by omega), if_neg (by omega), if_neg (by omega), if_neg (by omega)]
  have c2 : ∀ mo, mo = 1 → (k = 0 ∨ k = 7) → zpa T n k po = ((zrn T n mo po).1, (zrn T n mo po).2.1, (zrn T n mo po).2.2.2, 0) := by
    rintro mo rfl hk3
    unfold zpa
    rw [if_neg (by omega), if_pos hk3]
  refine zC_of (ls := [some (.ref a), some (.int (nI k))]) hl (by decide +kernel) rfl (Nat.le_of_ble_eq_true rfl) rfl ?_
  refine zs_iload_n (pc := 0) dP_readArguments_0 rfl ?_
  have two : k = 1 ∨ k = 2 ∨ k = 5 → Z Γ l mP_readArguments d 0 0 (zFin Γ (zQc a h n9 T n m K F S (zpa T n k po)) 0 0) 60 [some (.ref a), some (.int (nI k))] [] h n9 0 0 := by
    intro hk2
    have e : zpa T n k po = (if (zrn T n 3 po).1 = true then ((zrn T n 3 (zrn T n 3 po).2.1).1, (zrn T n 3 (zrn T n 3 po).2.1).2.1, (zrn T n 3 po).2.2.2, (zrn T n 3 (zrn T n 3 po).2.1).2.2.2) else (false, (zrn T n 3 po).2.1, 0, 0)) := by
      unfold zpa
      rw [if_neg (by omega), if_neg (by omega), if_pos hk2]
    rw [e]
    have ho := zrn_ok (T := T) (m := 3) hpo
    refine zs_aload_n (pc := 60) dP_readArguments_60 rfl ?_
    refine zs_iconst (pc := 61) dP_readArguments_61 zi_3 ?_
    refine zcVQ_1 (pc := 62) (d2 := d - 1) (s_P_readFirst (mo := 3) hl (by omega) hT hn hpo hc (by decide) hm) dP_readArguments_62 kP_99 mdP_readFirst miP_readFirst mvP_readFirst rfl (by exact hT.1) rfl (Nat.le_of_ble_eq_true rfl) (by omega) (by omega) (by omega) (fun v h1 n1 hq => ?_) (fun E h1 n1 hq => ?_)
    · obtain ⟨hv, rfl, hf, v2, c2, K2, F2, S2, hT, rfl, rfl, rfl⟩ := hq
      obtain rfl := Sum.inl.inj hv
      generalize zrn T n 3 po = o at hT ho ⊢
      obtain ⟨b, po2, c3, v3⟩ := o
      cases b with
      | false =>
        rw [if_neg (by intro q; cases q)]
        refine zs_if_eq (pc := 65) 79 dP_readArguments_65 rfl (fun _ => ?_) (fun h9 => absurd h9 (fun q => q rfl))
        refine zs_iconst (pc := 79) dP_readArguments_79 zi_0 ?_
        exact zs_iret (pc := 80) dP_readArguments_80 rfl (by first | rfl | exact znarB _) (by omega) (by omega) (⟨rfl, rfl, hf, _, _, _, _, _, hT, fun q => by cases q⟩)
      | true =>
        rw [if_pos rfl]
        refine zs_if_eq (pc := 65) 79 dP_readArguments_65 rfl (fun h9 => absurd h9 (fun q => absurd (show nI 1 = 0 from q) (by decide))) (fun _ => ?_)
        refine zs_aload_n (pc := 68) dP_readArguments_68 rfl ?_
        refine zcVQ_0 (pc := 69) (d2 := d - 1) (s_P_readSecond hl (by omega) hT hn ho.2.1 hc hm) dP_readArguments_69 kP_102 mdP_readSecond miP_readSecond mvP_readSecond rfl (by exact hT.1) rfl (Nat.le_of_ble_eq_true rfl) (by omega) (by omega) (by omega) (fun v h1 n1 hq => ?_) (fun E h1 n1 hq => ?_)
        · obtain ⟨hv, rfl, hf2, v4, c4, K4, F4, S4, hT, rfl, rfl, rfl⟩ := hq
          obtain rfl := Sum.inl.inj hv
          generalize hoo : zrn T n 3 (true, po2, c3, v3).2.1 = o2 at hT ⊢
          obtain ⟨b2, po4, c5, v5⟩ := o2
          cases b2 with
          | false =>
            refine zs_if_eq (pc := 72) 79 dP_readArguments_72 rfl (fun _ => ?_) (fun h9 => absurd h9 (fun q => q rfl))
            refine zs_iconst (pc := 79) dP_readArguments_79 zi_0 ?_
            exact zs_iret (pc := 80) dP_readArguments_80 rfl (by first | rfl | exact znarB _) (by omega) (by omega) (⟨rfl, rfl, hf.tr hf2, _, _, _, _, _, hT, fun q => by cases q⟩)
          | true =>
            refine zs_if_eq (pc := 72) 79 dP_readArguments_72 rfl (fun h9 => absurd h9 (fun q => absurd (show nI 1 = 0 from q) (by decide))) (fun _ => ?_)
            refine zs_iconst (pc := 75) dP_readArguments_75 zi_1 ?_
            refine zs_goto (pc := 76) 80 dP_readArguments_76 rfl ?_
            exact zs_iret (pc := 80) dP_readArguments_80 rfl (by first | rfl | exact znarB _) (by omega) (by omega) (⟨rfl, rfl, hf.tr hf2, _, _, _, _, _, hT, fun q => ⟨rfl, rfl, rfl⟩⟩)
        · exact absurd hq.1 (by intro q; cases q)
    · exact absurd hq.1 (by intro q; cases q)
  match k, hk with
  | 0, _ =>
    rw [c2 1 rfl (by omega)]
    refine zs_tableIn (pc := 1) (off := 53) 54 dP_readArguments_1 (by decide) (by decide) (by decide) rfl ?_
    refine zs_aload_n (pc := 54) dP_readArguments_54 rfl ?_
    refine zs_iconst (pc := 55) dP_readArguments_55 zi_1 ?_
    refine zcVQ_1 (pc := 56) (d2 := d - 1) (s_P_readFirst (mo := 1) hl (by omega) hT hn hpo hc (by decide) hm) dP_readArguments_56 kP_99 mdP_readFirst miP_readFirst mvP_readFirst rfl (by exact hT.1) rfl (Nat.le_of_ble_eq_true rfl) (by omega) (by omega) (by omega) (fun v h1 n1 hq => ?_) (fun E h1 n1 hq => ?_)
    · obtain rfl := Sum.inl.inj hq.1
      exact zs_iret (pc := 59) dP_readArguments_59 rfl (by first | rfl | exact znarB _) (by omega) (by omega) (one 1 (by decide) 0 0 _ _ _ hq)
    · exact absurd hq.1 (by intro q; cases q)
  | 1, _ =>
    refine zs_tableIn (pc := 1) (off := 59) 60 dP_readArguments_1 (by decide) (by decide) (by decide) rfl ?_
    exact two (by omega)
  | 2, _ =>
    refine zs_tableIn (pc := 1) (off := 59) 60 dP_readArguments_1 (by decide) (by decide) (by decide) rfl ?_
    exact two (by omega)
  | 3, _ =>
    rw [c1 3 rfl (by omega)]
    refine zs_tableIn (pc := 1) (off := 102) 103 dP_readArguments_1 (by decide) (by decide) (by decide) rfl ?_
    refine zs_aload_n (pc := 103) dP_readArguments_103 rfl ?_
    refine zs_iconst (pc := 104) dP_readArguments_104 zi_3 ?_
    refine zcVQ_1 (pc := 105) (d2 := d - 1) (s_P_readFirst (mo := 3) hl (by omega) hT hn hpo hc (by decide) hm) dP_readArguments_105 kP_99 mdP_readFirst miP_readFirst mvP_readFirst rfl (by exact hT.1) rfl (Nat.le_of_ble_eq_true rfl) (by omega) (by omega) (by omega) (fun v h1 n1 hq => ?_) (fun E h1 n1 hq => ?_)
    · obtain rfl := Sum.inl.inj hq.1
      exact zs_iret (pc := 108) dP_readArguments_108 rfl (by first | rfl | exact znarB _) (by omega) (by omega) (one 3 (by decide) 0 0 _ _ _ hq)
    · exact absurd hq.1 (by intro q; cases q)
  | 4, _ =>
    rw [c1 3 rfl (by omega)]
    refine zs_tableIn (pc := 1) (off := 102) 103 dP_readArguments_1 (by decide) (by decide) (by decide) rfl ?_
    refine zs_aload_n (pc := 103) dP_readArguments_103 rfl ?_
    refine zs_iconst (pc := 104) dP_readArguments_104 zi_3 ?_
    refine zcVQ_1 (pc := 105) (d2 := d - 1) (s_P_readFirst (mo := 3) hl (by omega) hT hn hpo hc (by decide) hm) dP_readArguments_105 kP_99 mdP_readFirst miP_readFirst mvP_readFirst rfl (by exact hT.1) rfl (Nat.le_of_ble_eq_true rfl) (by omega) (by omega) (by omega) (fun v h1 n1 hq => ?_) (fun E h1 n1 hq => ?_)
    · obtain rfl := Sum.inl.inj hq.1
      exact zs_iret (pc := 108) dP_readArguments_108 rfl (by first | rfl | exact znarB _) (by omega) (by omega) (one 3 (by decide) 0 0 _ _ _ hq)
    · exact absurd hq.1 (by intro q; cases q)
  | 5, _ =>
    refine zs_tableIn (pc := 1) (off := 59) 60 dP_readArguments_1 (by decide) (by decide) (by decide) rfl ?_
    exact two (by omega)
  | 6, _ =>
    refine zs_tableIn (pc := 1) (off := 51) 52 dP_readArguments_1 (by decide) (by decide) (by decide) rfl ?_
    refine zs_iconst (pc := 52) dP_readArguments_52 zi_1 ?_
    exact zs_iret (pc := 53) dP_readArguments_53 rfl (by first | rfl | exact znarB _) (by omega) (by omega) (⟨rfl, rfl, zfr.rf, v, c, K, F, S, hT, fun _ => ⟨rfl, (zF0 hF).symm, (zF0 hS).symm⟩⟩)
  | 7, _ =>
    rw [c2 1 rfl (by omega)]
    refine zs_tableIn (pc := 1) (off := 53) 54 dP_readArguments_1 (by decide) (by decide) (by decide) rfl ?_
    refine zs_aload_n (pc := 54) dP_readArguments_54 rfl ?_
    refine zs_iconst (pc := 55) dP_readArguments_55 zi_1 ?_
    refine zcVQ_1 (pc := 56) (d2 := d - 1) (s_P_readFirst (mo := 1) hl (by omega) hT hn hpo hc (by decide) hm) dP_readArguments_56 kP_99 mdP_readFirst miP_readFirst mvP_readFirst rfl (by exact hT.1) rfl (Nat.le_of_ble_eq_true rfl) (by omega) (by omega) (by omega) (fun v h1 n1 hq => ?_) (fun E h1 n1 hq => ?_)
    · obtain rfl := Sum.inl.inj hq.1
      exact zs_iret (pc := 59) dP_readArguments_59 rfl (by first | rfl | exact znarB _) (by omega) (by omega) (one 1 (by decide) 0 0 _ _ _ hq)
    · exact absurd hq.1 (by intro q; cases q)
  | 8, _ =>
    have e8 : zpa T n 8 po = (if po < n ∧ T po = 32 then ((zrn T n 3 po).1, (zrn T n 3 po).2.1, (zrn T n 3 po).2.2.1, (zrn T n 3 po).2.2.2) else (true, po, 0, 0)) := rfl
    rw [e8]
    refine zs_tableIn (pc := 1) (off := 80) 81 dP_readArguments_1 (by decide) (by decide) (by decide) rfl ?_
    refine zs_aload_n (pc := 81) dP_readArguments_81 rfl ?_
    refine zs_bipush (pc := 82) dP_readArguments_82 (zi_b 32 (by decide)) ?_
    refine zcV1_1 (pc := 84) (d2 := d - 1) (s_P_stands hl hT hn hpo hc (by decide)) dP_readArguments_84 kP_45 mdP_stands miP_stands mvP_stands rfl (by exact hT.1) rfl (Nat.le_of_ble_eq_true rfl) (by omega) (by omega) (by omega) ?_
    by_cases e : po < n ∧ T po = 32
    · rw [if_pos e, if_pos e]
      refine zn_if_eq (pc := 87) 97 dP_readArguments_87 rfl (by omega) (fun h9 => absurd h9 (by decide)) (fun _ => ?_)
      refine zs_aload_n (pc := 90) dP_readArguments_90 rfl ?_
      refine zcVQ_0 (pc := 91) (d2 := d - 1) (s_P_readPrefix hl (by omega) hT hn hpo hc hm) dP_readArguments_91 kP_105 mdP_readPrefix miP_readPrefix mvP_readPrefix rfl (by exact hT.1) rfl (Nat.le_of_ble_eq_true rfl) (by omega) (by omega) (by omega) (fun v h1 n1 hq => ?_) (fun E h1 n1 hq => ?_)
      · obtain ⟨hv, rfl, hf, v2, c2, K2, F2, S2, hT, rfl, rfl, rfl⟩ := hq
        obtain rfl := Sum.inl.inj hv
        generalize zrn T n 3 po = o at hT ⊢
        obtain ⟨b, po2, c3, v3⟩ := o
        cases b with
        | false =>
          refine zs_if_eq (pc := 94) 101 dP_readArguments_94 rfl (fun _ => ?_) (fun h9 => absurd h9 (fun q => q rfl))
          refine zs_iconst (pc := 101) dP_readArguments_101 zi_0 ?_
          exact zs_iret (pc := 102) dP_readArguments_102 rfl (by first | rfl | exact znarB _) (by omega) (by omega) (⟨rfl, rfl, hf, _, _, _, _, _, hT, fun q => by cases q⟩)
        | true =>
          refine zs_if_eq (pc := 94) 101 dP_readArguments_94 rfl (fun h9 => absurd h9 (fun q => absurd (show nI 1 = 0 from q) (by decide))) (fun _ => ?_)
          refine zs_iconst (pc := 97) dP_readArguments_97 zi_1 ?_
          refine zs_goto (pc := 98) 102 dP_readArguments_98 rfl ?_
          exact zs_iret (pc := 102) dP_readArguments_102 rfl (by first | rfl | exact znarB _) (by omega) (by omega) (⟨rfl, rfl, hf, _, _, _, _, _, hT, fun q => ⟨rfl, rfl, rfl⟩⟩)
      · exact absurd hq.1 (by intro q; cases q)
    · rw [if_neg e, if_neg e]
      refine zn_if_eq (pc := 87) 97 dP_readArguments_87 rfl (by omega) (fun _ => ?_) (fun h9 => absurd h9 (by decide))
      refine zs_iconst (pc := 97) dP_readArguments_97 zi_1 ?_
      refine zs_goto (pc := 98) 102 dP_readArguments_98 rfl ?_
      exact zs_iret (pc := 102) dP_readArguments_102 rfl (by first | rfl | exact znarB _) (by omega) (by omega) (⟨rfl, rfl, zfr.rf, v, c, K, F, S, hT, fun _ => ⟨rfl, (zF0 hF).symm, (zF0 hS).symm⟩⟩)
  | 9, _ =>
    rw [c1 3 rfl (by omega)]
    refine zs_tableOut (pc := 1) 103 dP_readArguments_1 (by decide) rfl ?_
    refine zs_aload_n (pc := 103) dP_readArguments_103 rfl ?_
    refine zs_iconst (pc := 104) dP_readArguments_104 zi_3 ?_
    refine zcVQ_1 (pc := 105) (d2 := d - 1) (s_P_readFirst (mo := 3) hl (by omega) hT hn hpo hc (by decide) hm) dP_readArguments_105 kP_99 mdP_readFirst miP_readFirst mvP_readFirst rfl (by exact hT.1) rfl (Nat.le_of_ble_eq_true rfl) (by omega) (by omega) (by omega) (fun v h1 n1 hq => ?_) (fun E h1 n1 hq => ?_)
    · obtain rfl := Sum.inl.inj hq.1
      exact zs_iret (pc := 108) dP_readArguments_108 rfl (by first | rfl | exact znarB _) (by omega) (by omega) (one 3 (by decide) 0 0 _ _ _ hq)
    · exact absurd hq.1 (by intro q; cases q)
  | k + 10, hk => exact absurd hk (by omega)
theorem s_P_readCommand {Γ : zG} {l : Launch} (hl : l.stackTraces = false) {d : Nat} (hd : 6 ≤ d) {h : zH} {n9 : Nat} {a n po v c m : Nat} {T K F S : Nat → Nat} (hT : PH h a T n po v c m K F S) (hn : n ≤ 60) (hpo : po ≤ n) (hc : ∀ i, i < n → T i < 128) (hm : m < 15) : zC Γ l d mP_readCommand [.ref a] h n9 0 0 (zAq a h n9 T n m (zpc T n po).2.1 (zpc T n po).1 (fun K2 F2 S2 => (zpc T n po).1 = true → K2 = zup K m (zpc T n po).2.2.1 ∧ F2 = zup (zup F m 0) m (zpc T n po).2.2.2.1 ∧ S2 = zup (zup S m 0) m (zpc T n po).2.2.2.2)) := by
  obtain ⟨w1, w2, w3⟩ := zwd_ok (T := T) (n := n) (po := po) 10 0 0 rfl (Or.inr rfl)
  unfold zpc
  have hT2 := hT.o (n2 := n) (po2 := po + (zwd T n po 10 0 0).2) (v2 := v) (c2 := c) (m2 := m)
  refine zC_of (ls := [some (.ref a), none]) hl (by decide +kernel) rfl (Nat.le_of_ble_eq_true rfl) rfl ?_
  refine zs_aload_n (pc := 0) dP_readCommand_0 rfl ?_
  refine zcV1_0 (pc := 1) (d2 := d - 1) (s_P_readWord hl (by omega) hT hn hpo hc) dP_readCommand_1 kP_49 mdP_readWord miP_readWord mvP_readWord rfl (by first | exact hT.1 | exact hT5.1) rfl (Nat.le_of_ble_eq_true rfl) (by omega) (by omega) (by omega) ?_
  generalize zwd T n po 10 0 0 = wd at w1 w2 w3 hT2 ⊢
  obtain ⟨k, po2⟩ := wd
  by_cases e : k = 10
  · subst e
    rw [if_pos rfl]
    refine zs_istore_n (pc := 4) (ls2 := [_, _]) dP_readCommand_4 (Nat.le_of_ble_eq_true rfl) rfl ?_
    refine zs_iload_n (pc := 5) dP_readCommand_5 rfl ?_
    refine zs_iconst (pc := 6) dP_readCommand_6 zi_m1 ?_
    refine zs_icmp_ne (pc := 7) 12 dP_readCommand_7 rfl (fun h9 => absurd h9 (fun q => q rfl)) (fun _ => ?_)
    refine zs_iconst (pc := 10) dP_readCommand_10 zi_0 ?_
    exact zs_iret (pc := 11) dP_readCommand_11 rfl (by first | rfl | exact znarB _) (by omega) (by omega) (⟨rfl, rfl, zfr.u (by omega) (by omega), _, _, _, _, _, hT2, fun q => by cases q⟩)
  · rw [if_neg e]
    have ek : zkd k = nI k := if_neg e
    have hne : ¬ nI k = -1 := fun q => by
      have h9 := nI_pos (n := k) (by have : k ≤ 10 := w1; omega)
      rw [q] at h9
      exact h9 (by decide)
    have hT3 := hT2.K (K2 := zup K m k)
    have hT4 := hT3.F (F2 := zup F m 0)
    have hT5 := hT4.S (S2 := zup S m 0)
    show Z Γ l mP_readCommand d 0 0 _ 4 [some (.ref a), none] [.int (zkd k)] _ n9 0 0
    rw [ek]
    refine zs_istore_n (pc := 4) (ls2 := [_, _]) dP_readCommand_4 (Nat.le_of_ble_eq_true rfl) rfl ?_
    refine zs_iload_n (pc := 5) dP_readCommand_5 rfl ?_
    refine zs_iconst (pc := 6) dP_readCommand_6 zi_m1 ?_
    refine zs_icmp_ne (pc := 7) 12 dP_readCommand_7 rfl (fun _ => ?_) (fun h9 => absurd h9 (hne))
    refine zs_aload_n (pc := 12) dP_readCommand_12 rfl ?_
    refine zs_get (pc := 13) dP_readCommand_13 fP_28 (by first | exact hT2.1 | exact hT2.2.2.1 | exact hT3.1 | exact hT3.2.2.2.1 | exact hT4.1 | exact hT4.2.2.2.2) (by rfl) ?_
    refine zs_aload_n (pc := 16) dP_readCommand_16 rfl ?_
    refine zs_get (pc := 17) dP_readCommand_17 fP_38 (by first | exact hT2.1 | exact hT2.2.2.1 | exact hT3.1 | exact hT3.2.2.2.1 | exact hT4.1 | exact hT4.2.2.2.2) (by rfl) ?_
    refine zs_iload_n (pc := 20) dP_readCommand_20 rfl ?_
    refine zn_iast (pc := 21) dP_readCommand_21 (by first | exact hT2.1 | exact hT2.2.2.1 | exact hT3.1 | exact hT3.2.2.2.1 | exact hT4.1 | exact hT4.2.2.2.2) (by omega) (by first | decide | assumption) ?_
    refine zs_aload_n (pc := 22) dP_readCommand_22 rfl ?_
    refine zs_get (pc := 23) dP_readCommand_23 fP_32 (by first | exact hT2.1 | exact hT2.2.2.1 | exact hT3.1 | exact hT3.2.2.2.1 | exact hT4.1 | exact hT4.2.2.2.2) (by rfl) ?_
    refine zs_aload_n (pc := 26) dP_readCommand_26 rfl ?_
    refine zs_get (pc := 27) dP_readCommand_27 fP_38 (by first | exact hT2.1 | exact hT2.2.2.1 | exact hT3.1 | exact hT3.2.2.2.1 | exact hT4.1 | exact hT4.2.2.2.2) (by rfl) ?_
    refine zs_iconst (pc := 30) dP_readCommand_30 zi_0 ?_
    refine zn_iast (pc := 31) dP_readCommand_31 (by first | exact hT2.1 | exact hT2.2.2.1 | exact hT3.1 | exact hT3.2.2.2.1 | exact hT4.1 | exact hT4.2.2.2.2) (by omega) (by first | decide | assumption) ?_
    refine zs_aload_n (pc := 32) dP_readCommand_32 rfl ?_
    refine zs_get (pc := 33) dP_readCommand_33 fP_35 (by first | exact hT2.1 | exact hT2.2.2.1 | exact hT3.1 | exact hT3.2.2.2.1 | exact hT4.1 | exact hT4.2.2.2.2) (by rfl) ?_
    refine zs_aload_n (pc := 36) dP_readCommand_36 rfl ?_
    refine zs_get (pc := 37) dP_readCommand_37 fP_38 (by first | exact hT2.1 | exact hT2.2.2.1 | exact hT3.1 | exact hT3.2.2.2.1 | exact hT4.1 | exact hT4.2.2.2.2) (by rfl) ?_
    refine zs_iconst (pc := 40) dP_readCommand_40 zi_0 ?_
    refine zn_iast (pc := 41) dP_readCommand_41 (by first | exact hT2.1 | exact hT2.2.2.1 | exact hT3.1 | exact hT3.2.2.2.1 | exact hT4.1 | exact hT4.2.2.2.2) (by omega) (by first | decide | assumption) ?_
    refine zs_aload_n (pc := 42) dP_readCommand_42 rfl ?_
    refine zs_iload_n (pc := 43) dP_readCommand_43 rfl ?_
    refine zcVQ_1 (pc := 44) (d2 := d - 1) (s_P_readArguments hl (by omega) hT5 hn (by show po + po2 ≤ n; have w2 : po + po2 ≤ n ∨ po2 = 0 := w2; omega) hc hm (by have w1 : k ≤ 10 := w1; omega) zup_s zup_s) dP_readCommand_44 kP_53 mdP_readArguments miP_readArguments mvP_readArguments rfl (by first | exact hT.1 | exact hT5.1) rfl (Nat.le_of_ble_eq_true rfl) (by omega) (by omega) (by omega) (fun v h1 n1 hq => ?_) (fun E h1 n1 hq => ?_)
    · obtain ⟨hv, rfl, hf, v2, c2, K2, F2, S2, hT, hG⟩ := hq
      obtain rfl := Sum.inl.inj hv
      exact zs_iret (pc := 47) dP_readCommand_47 rfl (by first | rfl | exact znarB _) (by omega) (by omega) (⟨rfl, rfl, (((zfr.u (by omega) (by omega)).tr (zfr.u (by omega) (by omega))).tr ((zfr.u (by omega) (by omega)).tr (zfr.u (by omega) (by omega)))).tr hf, v2, c2, K2, F2, S2, hT, hG⟩)
    · exact absurd hq.1 (by intro q; cases q)
/-- the commands stand in the arrays -/
def zCm (K F S : Nat → Nat) (A : List zCmd) : Prop := ∀ i, i < A.length → A[i]? = some (K i, F i, S i)
theorem zCm.add {K F S : Nat → Nat} {A : List zCmd} {x : zCmd} {a0 b0 : Nat} (h : zCm K F S A) : zCm (zup K A.length x.1) (zup (zup F A.length a0) A.length x.2.1) (zup (zup S A.length b0) A.length x.2.2) (A ++ [x]) := by
  intro i hi
  rw [List.length_append] at hi
  have hi2 : i < A.length + 1 := hi
  by_cases e : i = A.length
  · subst e
    rw [zup_s, zup_s, zup_s, List.getElem?_append_right (Nat.le_refl _), Nat.sub_self]
    rfl
  · rw [zup_n e, zup_n e, zup_n e, zup_n e, zup_n e, List.getElem?_append_left (by omega)]
    exact h i (by omega)
def zer : Option Nat → Int32
  | none => -1
  | some p => nI p
/-- what reading the buffer leaves -/
def zPq (a : Nat) (h : zH) (n9 : Nat) (T : Nat → Nat) (n : Nat) (r : Option Nat × List zCmd) : zQ := fun oc h1 n1 => oc = .inl (some (.int (zer r.1))) ∧ n1 = n9 ∧ zfr a 5 h h1 ∧ ∃ po v c m K F S, PH h1 a T n po v c m K F S ∧ (r.1 = none → m = r.2.length ∧ zCm K F S r.2)
theorem lp_P_read {Γ : zG} {l : Launch} (hl : l.stackTraces = false) {d : Nat} (hd : 7 ≤ d) {h : zH} {n9 : Nat} {a n : Nat} {T : Nat → Nat} (hn : n ≤ 60) (hc : ∀ i, i < n → T i < 128) : ∀ f (A : List zCmd), f + A.length = 15 → ∀ (po v c : Nat) (K F S : Nat → Nat) (h1 : zH), po ≤ n → 5 * A.length ≤ po → PH h1 a T n po v c A.length K F S → zCm K F S A → zfr a 5 h h1 → Z Γ l mP_read d 0 0 (zFin Γ (zPq a h n9 T n (zps T n f po A)) 0 0) 10 [some (.ref a)] [] h1 n9 0 0 := by
  intro f
  induction f with
  | zero => intro A hf po v c K F S h1 hpo h5 hT hA hfr; exfalso; omega
  | succ f ih =>
    intro A hf po v c K F S h1 hpo h5 hT hA hfr
    obtain ⟨k1, k2, k3⟩ := zpc_ok (T := T) hpo
    have hlen : ∀ x : zCmd, (A ++ [x]).length = A.length + 1 := fun x => by rw [List.length_append]; rfl
    have ez : zps T n (f + 1) po A = if (zpc T n po).1 = true then (if n ≤ (zpc T n po).2.1 then (none, A ++ [(zpc T n po).2.2]) else if T (zpc T n po).2.1 = 59 then zps T n f ((zpc T n po).2.1 + 1) (A ++ [(zpc T n po).2.2]) else (some (zpc T n po).2.1, A ++ [(zpc T n po).2.2])) else (some (zpc T n po).2.1, A) := rfl
    rw [ez]
    refine zs_aload_n (pc := 10) dP_read_10 rfl ?_
    refine zs_get (pc := 11) dP_read_11 fP_38 (by first | exact hT.1 | exact hT.2.1 | exact zu_s | exact hT2.1) (by rfl) ?_
    refine zs_bipush (pc := 14) dP_read_14 (zi_b 15 (by decide)) ?_
    refine zn_icmp_ge (pc := 16) 81 dP_read_16 rfl (by omega) (by omega) (fun h9 => absurd h9 (by omega)) (fun _ => ?_)
    refine zs_aload_n (pc := 19) dP_read_19 rfl ?_
    refine zcVQ_0 (pc := 20) (d2 := d - 1) (s_P_readCommand hl (by omega) hT hn hpo hc (by omega)) dP_read_20 kP_41 mdP_readCommand miP_readCommand mvP_readCommand rfl (by first | exact hT.1 | exact hT2.1) rfl (Nat.le_of_ble_eq_true rfl) (by omega) (by omega) (by omega) (fun v h1 n1 hq => ?_) (fun E h1 n1 hq => ?_)
    · obtain ⟨hv, rfl, hf2, v2, c2, K2, F2, S2, hT, hG⟩ := hq
      obtain rfl := Sum.inl.inj hv
      generalize zpc T n po = o at k1 k2 k3 hT hG ⊢
      obtain ⟨b, po2, x⟩ := o
      cases b with
      | false =>
        rw [if_neg (by intro q; cases q)]
        refine zs_if_ne (pc := 23) 31 dP_read_23 rfl (fun h9 => absurd h9 (fun q => q rfl)) (fun _ => ?_)
        refine zs_aload_n (pc := 26) dP_read_26 rfl ?_
        refine zs_get (pc := 27) dP_read_27 fP_19 (by first | exact hT.1 | exact hT.2.1 | exact zu_s | exact hT2.1) (by rfl) ?_
        exact zs_iret (pc := 30) dP_read_30 rfl rfl (by omega) (by omega) (⟨rfl, rfl, hfr.tr hf2, _, _, _, _, _, _, _, hT, fun q => by cases q⟩)
      | true =>
        obtain ⟨rfl, rfl, rfl⟩ := hG rfl
        obtain ⟨k4, k5⟩ := k3 rfl
        have k4 : po + 4 ≤ po2 := k4
        have k2 : po2 ≤ n := k2
        have hA2 := zCm.add (x := x) (a0 := 0) (b0 := 0) hA
        have hT2 := hT.o (n2 := n) (po2 := po2) (v2 := v2) (c2 := c2) (m2 := A.length + 1)
        rw [if_pos rfl]
        refine zs_if_ne (pc := 23) 31 dP_read_23 rfl (fun _ => ?_) (fun h9 => absurd h9 (fun q => absurd (show nI 1 = 0 from q) (by decide)))
        refine zs_aload_n (pc := 31) dP_read_31 rfl ?_
        refine zs_dup (pc := 32) dP_read_32 rfl ?_
        refine zs_get (pc := 33) dP_read_33 fP_38 (by first | exact hT.1 | exact hT.2.1 | exact zu_s | exact hT2.1) (by rfl) ?_
        refine zs_iconst (pc := 36) dP_read_36 zi_1 ?_
        refine zn_iadd (pc := 37) dP_read_37 ?_
        refine zs_put (pc := 38) (fs2 := [_, _, _, _, _, _, _, _, _]) dP_read_38 fP_38 (by first | exact hT.1 | exact hT.2.1 | exact zu_s | exact hT2.1) (by rfl) (by rfl) (by exact Nat.le_of_ble_eq_true rfl) (by rfl) ?_
        refine zs_aload_n (pc := 41) dP_read_41 rfl ?_
        refine zs_get (pc := 42) dP_read_42 fP_19 (by first | exact hT.1 | exact hT.2.1 | exact zu_s | exact hT2.1) (by rfl) ?_
        refine zs_aload_n (pc := 45) dP_read_45 rfl ?_
        refine zs_get (pc := 46) dP_read_46 fP_15 (by first | exact hT.1 | exact hT.2.1 | exact zu_s | exact hT2.1) (by rfl) ?_
        by_cases e1 : n ≤ po2
        · rw [if_pos e1]
          refine zn_icmp_lt (pc := 49) 54 dP_read_49 rfl (by omega) (by omega) (fun h9 => absurd h9 (by show ¬ po2 < n; omega)) (fun _ => ?_)
          refine zs_iconst (pc := 52) dP_read_52 zi_m1 ?_
          exact zs_iret (pc := 53) dP_read_53 rfl rfl (by omega) (by omega) (⟨rfl, rfl, (hfr.tr hf2).tr (zfr.u (by omega) (by omega)), _, _, _, _, _, _, _, hT2, fun _ => ⟨(hlen x).symm, hA2⟩⟩)
        · rw [if_neg e1]
          refine zn_icmp_lt (pc := 49) 54 dP_read_49 rfl (by omega) (by omega) (fun _ => ?_) (fun h9 => absurd h9 (e1))
          refine zs_aload_n (pc := 54) dP_read_54 rfl ?_
          refine zs_bipush (pc := 55) dP_read_55 (zi_b 59 (by decide)) ?_
          refine zcV1_1 (pc := 57) (d2 := d - 1) (s_P_stands hl hT2 hn k2 hc (by decide)) dP_read_57 kP_45 mdP_stands miP_stands mvP_stands rfl (by first | exact hT.1 | exact hT2.1) rfl (Nat.le_of_ble_eq_true rfl) (by omega) (by omega) (by omega) ?_
          by_cases e2 : T po2 = 59
          · rw [if_pos e2, if_pos (show po2 < n ∧ T po2 = 59 from ⟨by omega, e2⟩)]
            have hz := ih (A ++ [x]) (by rw [hlen]; omega) (po2 + 1) v2 c2 _ _ _ _ (by omega) (by rw [hlen]; omega) (by rw [hlen]; exact hT2.o (n2 := n) (po2 := po2 + 1) (v2 := v2) (c2 := c2) (m2 := A.length + 1)) hA2 ((hfr.tr hf2).tr ((zfr.u (by omega) (by omega)).tr (zfr.u (by omega) (by omega))))
            refine zn_if_ne (pc := 60) 68 dP_read_60 rfl (by omega) (fun _ => ?_) (fun h9 => absurd h9 (by decide))
            refine zs_aload_n (pc := 68) dP_read_68 rfl ?_
            refine zs_dup (pc := 69) dP_read_69 rfl ?_
            refine zs_get (pc := 70) dP_read_70 fP_19 (by first | exact hT.1 | exact hT.2.1 | exact zu_s | exact hT2.1) (by rfl) ?_
            refine zs_iconst (pc := 73) dP_read_73 zi_1 ?_
            refine zn_iadd (pc := 74) dP_read_74 ?_
            refine zs_put (pc := 75) (fs2 := [_, _, _, _, _, _, _, _, _]) dP_read_75 fP_19 (by first | exact hT.1 | exact hT.2.1 | exact zu_s | exact hT2.1) (by rfl) (by rfl) (by exact Nat.le_of_ble_eq_true rfl) (by rfl) ?_
            refine zs_goto (pc := 78) 10 dP_read_78 rfl ?_
            exact hz
          · rw [if_neg e2, if_neg (fun q => e2 q.2)]
            refine zn_if_ne (pc := 60) 68 dP_read_60 rfl (by omega) (fun h9 => absurd h9 (by decide)) (fun _ => ?_)
            refine zs_aload_n (pc := 63) dP_read_63 rfl ?_
            refine zs_get (pc := 64) dP_read_64 fP_19 (by first | exact hT.1 | exact hT.2.1 | exact zu_s | exact hT2.1) (by rfl) ?_
            exact zs_iret (pc := 67) dP_read_67 rfl rfl (by omega) (by omega) (⟨rfl, rfl, (hfr.tr hf2).tr (zfr.u (by omega) (by omega)), _, _, _, _, _, _, _, hT2, fun q => by cases q⟩)
    · exact absurd hq.1 (by intro q; cases q)
theorem s_P_read {Γ : zG} {l : Launch} (hl : l.stackTraces = false) {d : Nat} (hd : 7 ≤ d) {h : zH} {n9 : Nat} {a n po v c m : Nat} {T K F S : Nat → Nat} (hT : PH h a T n po v c m K F S) (hn : n ≤ 60) (hc : ∀ i, i < n → T i < 128) : zC Γ l d mP_read [.ref a] h n9 0 0 (zPq a h n9 T n (zps T n 15 0 [])) := by
  have hT2 := (hT.o (n2 := n) (po2 := 0) (v2 := v) (c2 := c) (m2 := m)).o (n2 := n) (po2 := 0) (v2 := v) (c2 := c) (m2 := 0)
  refine zC_of (ls := [some (.ref a)]) hl (by decide +kernel) rfl (Nat.le_of_ble_eq_true rfl) rfl ?_
  refine zs_aload_n (pc := 0) dP_read_0 rfl ?_
  refine zs_iconst (pc := 1) dP_read_1 zi_0 ?_
  refine zs_put (pc := 2) (fs2 := [_, _, _, _, _, _, _, _, _]) dP_read_2 fP_19 (by first | exact hT.1 | exact hT.2.1 | exact zu_s | exact hT2.1) (by rfl) (by rfl) (by exact Nat.le_of_ble_eq_true rfl) (by rfl) ?_
  refine zs_aload_n (pc := 5) dP_read_5 rfl ?_
  refine zs_iconst (pc := 6) dP_read_6 zi_0 ?_
  refine zs_putU (pc := 7) (fs2 := [_, _, _, _, _, _, _, _, _]) dP_read_7 fP_38 (by rfl) (by rfl) (by exact Nat.le_of_ble_eq_true rfl) (by rfl) ?_
  rw [zu_zu] at hT2
  exact lp_P_read hl hd hn hc 15 [] rfl 0 v c K F S _ (Nat.zero_le _) (Nat.zero_le _) hT2 (fun i hi => absurd hi (by show ¬ i < 0; omega)) (zfr.u (by omega) (by omega))
theorem s_P_clear {Γ : zG} {l : Launch} (hl : l.stackTraces = false) {d : Nat} {h : zH} {n9 : Nat} {a n po v c m : Nat} {T K F S : Nat → Nat} (hT : PH h a T n po v c m K F S) : zC Γ l d mP_clear [.ref a] h n9 0 0 (zR none (zu h a (zPo a 0 po v c m)) n9) := by
  refine zC_of (ls := [some (.ref a)]) hl (by decide +kernel) rfl (Nat.le_of_ble_eq_true rfl) rfl ?_
  refine zs_aload_n (pc := 0) dP_clear_0 rfl ?_
  refine zs_iconst (pc := 1) dP_clear_1 zi_0 ?_
  refine zs_put (pc := 2) (fs2 := [_, _, _, _, _, _, _, _, _]) dP_clear_2 fP_15 (by exact hT.1) (by rfl) (by rfl) (by exact Nat.le_of_ble_eq_true rfl) (by rfl) ?_
  exact zs_vret (pc := 5) dP_clear_5 rfl (by omega) (by omega) (⟨rfl, rfl, rfl⟩)
theorem s_P_add {Γ : zG} {l : Launch} (hl : l.stackTraces = false) {d : Nat} {h : zH} {n9 : Nat} {a n po v c m x : Nat} {T K F S : Nat → Nat} (hT : PH h a T n po v c m K F S) (hn : n < 60) (hx : x < 65536) : zC Γ l d mP_add [.ref a, .int (nI x)] h n9 0 0 (zR (some (.int (nI (n + 1)))) (zu (zu h (a + 1) (zAr 1 60 (zup T n x))) a (zPo a (n + 1) po v c m)) n9) := by
  have hT2 := hT.T (T2 := zup T n x)
  refine zC_of (ls := [some (.ref a), some (.int (nI x))]) hl (by decide +kernel) rfl (Nat.le_of_ble_eq_true rfl) rfl ?_
  refine zs_aload_n (pc := 0) dP_add_0 rfl ?_
  refine zs_get (pc := 1) dP_add_1 fP_15 (by first | exact hT.1 | exact hT.2.1 | exact hT2.1 | exact zu_s) (by rfl) ?_
  refine zs_bipush (pc := 4) dP_add_4 (zi_b 60 (by decide)) ?_
  refine zn_icmp_ge (pc := 6) 29 dP_add_6 rfl (by omega) (by omega) (fun h9 => absurd h9 (by omega)) (fun _ => ?_)
  refine zs_aload_n (pc := 9) dP_add_9 rfl ?_
  refine zs_get (pc := 10) dP_add_10 fP_9 (by first | exact hT.1 | exact hT.2.1 | exact hT2.1 | exact zu_s) (by rfl) ?_
  refine zs_aload_n (pc := 13) dP_add_13 rfl ?_
  refine zs_get (pc := 14) dP_add_14 fP_15 (by first | exact hT.1 | exact hT.2.1 | exact hT2.1 | exact zu_s) (by rfl) ?_
  refine zs_iload_n (pc := 17) dP_add_17 rfl ?_
  refine zn_cast (pc := 18) dP_add_18 (by first | exact hT.1 | exact hT.2.1 | exact hT2.1 | exact zu_s) (by omega) (by first | decide | assumption) (by omega) ?_
  refine zs_aload_n (pc := 19) dP_add_19 rfl ?_
  refine zs_dup (pc := 20) dP_add_20 rfl ?_
  refine zs_get (pc := 21) dP_add_21 fP_15 (by first | exact hT.1 | exact hT.2.1 | exact hT2.1 | exact zu_s) (by rfl) ?_
  refine zs_iconst (pc := 24) dP_add_24 zi_1 ?_
  refine zn_iadd (pc := 25) dP_add_25 ?_
  refine zs_put (pc := 26) (fs2 := [_, _, _, _, _, _, _, _, _]) dP_add_26 fP_15 (by first | exact hT.1 | exact hT.2.1 | exact hT2.1 | exact zu_s) (by rfl) (by rfl) (by exact Nat.le_of_ble_eq_true rfl) (by rfl) ?_
  refine zs_aload_n (pc := 29) dP_add_29 rfl ?_
  refine zs_get (pc := 30) dP_add_30 fP_15 (by first | exact hT.1 | exact hT.2.1 | exact hT2.1 | exact zu_s) (by rfl) ?_
  exact zs_iret (pc := 33) dP_add_33 rfl rfl (by omega) (by omega) (⟨rfl, rfl, rfl⟩)

