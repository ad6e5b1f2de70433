/-! the trie is built -/
def zlev (x : Nat) : Nat := if x = 0 then 0 else if x < 11 then 1 else if x < 111 then 2 else 3
/-- does a code's path go through a node -/
def zpth (c x : Nat) : Bool := x == znd c (zlev x)
theorem zpth_nd {c x k : Nat} (hc : c < 1000) (hk : k ≤ 3) : x = znd c k ↔ zpth c x = true ∧ zlev x = k := by
  have h1 : zlev (znd c k) = k := by
    match k, hk with
    | 0, _ => rfl
    | 1, _ =>
      show zlev (1 + c / 100) = 1
      unfold zlev
      rw [if_neg (by omega), if_pos (by omega)]
    | 2, _ =>
      show zlev (11 + c / 10) = 2
      unfold zlev
      rw [if_neg (by omega), if_neg (by omega), if_pos (by omega)]
    | 3, _ =>
      show zlev (111 + c) = 3
      unfold zlev
      rw [if_neg (by omega), if_neg (by omega), if_neg (by omega)]
    | k + 4, hk => exact absurd hk (by omega)
  unfold zpth
  constructor
  · rintro rfl
    rw [h1]
    exact ⟨beq_self_eq_true _, rfl⟩
  · rintro ⟨h2, h3⟩
    rw [h3] at h2
    simpa using h2
theorem zlev_le {x : Nat} : zlev x ≤ 3 := by unfold zlev; (repeat' split) <;> omega
/-- the counts when a code's first k nodes are passed; only those from level m on count -/
def zbump (E : Nat → Nat) (c m k : Nat) : Nat → Nat := fun x => if zpth c x = true ∧ zlev x < k ∧ m ≤ zlev x then E x + 1 else E x
theorem zbump_0 {E : Nat → Nat} {c m : Nat} : zbump E c m 0 = E := by
  funext x
  unfold zbump
  exact if_neg (by omega)
theorem zbump_y {E : Nat → Nat} {c m k : Nat} (hc : c < 1000) (hk : k ≤ 3) (hm : m ≤ k) : zup (zbump E c m k) (znd c k) (zbump E c m k (znd c k) + 1) = zbump E c m (k + 1) := by
  funext x
  have h0 := zpth_nd (x := x) hc hk
  unfold zup
  by_cases e : x = znd c k
  · obtain ⟨h1, h2⟩ := h0.mp e
    rw [if_pos e, ← e]
    unfold zbump
    rw [if_neg (by omega), if_pos ⟨h1, by omega, by omega⟩]
  · rw [if_neg e]
    unfold zbump
    by_cases h1 : zpth c x = true
    · have h2 : zlev x ≠ k := fun q => e (h0.mpr ⟨h1, q⟩)
      by_cases h3 : zlev x < k ∧ m ≤ zlev x
      · rw [if_pos ⟨h1, h3⟩, if_pos ⟨h1, by omega⟩]
      · rw [if_neg (fun q => h3 q.2), if_neg (fun q => h3 (by omega))]
    · rw [if_neg (fun q => h1 q.1), if_neg (fun q => h1 q.1)]
theorem zbump_n {E : Nat → Nat} {c m k : Nat} (hm : k < m) : zbump E c m k = zbump E c m (k + 1) := by
  funext x
  unfold zbump
  by_cases h1 : zpth c x = true ∧ zlev x < k ∧ m ≤ zlev x
  · rw [if_pos h1, if_pos ⟨h1.1, by omega⟩]
  · rw [if_neg h1, if_neg (fun q => h1 ⟨q.1, by omega⟩)]
def yTH (h : zH) (t : Nat) (E C : Nat → Nat) : zH := zu (zu h (t + 1) (zAr 0 1111 E)) (t + 2) (zAr 0 1111 C)
theorem yTH.T {h : zH} {t : Nat} {E C : Nat → Nat} (h0 : h t = some (zTo t)) : TH (yTH h t E C) t E C := by
  unfold yTH
  exact ⟨by rw [zu_n (by omega), zu_n (by omega)]; exact h0, by rw [zu_n (by omega)]; exact zu_s, zu_s⟩
theorem yTH.id {h : zH} {t : Nat} {E C : Nat → Nat} (hT : TH h t E C) : yTH h t E C = h := by
  unfold yTH
  rw [zu_id hT.2.1, zu_id hT.2.2]
theorem yTH.E {h : zH} {t : Nat} {E C E2 : Nat → Nat} : zu (yTH h t E C) (t + 1) (zAr 0 1111 E2) = yTH h t E2 C := by
  unfold yTH
  rw [zu_cm (a := t + 2) (b := t + 1) (by omega), zu_zu]
theorem yTH.C {h : zH} {t : Nat} {E C C2 : Nat → Nat} : zu (yTH h t E C) (t + 2) (zAr 0 1111 C2) = yTH h t E C2 := by
  unfold yTH
  rw [zu_zu]
theorem yTH.tw {h : zH} {t : Nat} {E C E2 C2 : Nat → Nat} : yTH (yTH h t E C) t E2 C2 = yTH h t E2 C2 := by
  have e : yTH (yTH h t E C) t E2 C2 = zu (zu (yTH h t E C) (t + 1) (zAr 0 1111 E2)) (t + 2) (zAr 0 1111 C2) := rfl
  rw [e, yTH.E, yTH.C]
theorem yTH.fr {h : zH} {t : Nat} {E C : Nat → Nat} : zfr t 3 h (yTH h t E C) := (zfr.u (by omega) (by omega)).tr (zfr.u (by omega) (by omega))
/-- met: the depth up to which the code's prefixes were met in this entry; m: the first depth that is new -/
def zmt (met : Int32) (m : Nat) : Prop := ∀ k, k ≤ 3 → (nI k ≤ met ↔ k < m)
theorem lp_T_countCode {Γ : zG} {l : Launch} (hl : l.stackTraces = false) {d : Nat} (hd : 1 ≤ d) {h : zH} {n : Nat} {t c m cn : Nat} {met : Int32} {E C : Nat → Nat} (h0 : h t = some (zTo t)) (hc : c < 1000) (hm : zmt met m) (hcn : cn ≤ 1) : ∀ i k, i + k = 4 → Z Γ l mT_countCode d 0 0 (zFin Γ (zR none (yTH h t (zbump E c m 4) (if cn = 1 then zbump C c 0 4 else C)) n) 0 0) 23 [some (.ref t), some (.int (nI c)), some (.int met), some (.int (nI cn)), some (.int (nI (znd c k))), some (.int (nI k))] [] (yTH h t (zbump E c m k) (if cn = 1 then zbump C c 0 k else C)) n 0 0 := by
  intro i
  induction i with
  | zero =>
    intro k hk
    obtain rfl : k = 4 := by omega
    refine zs_iload (pc := 23) dT_countCode_23 rfl ?_
    refine zs_iconst (pc := 25) dT_countCode_25 zi_3 ?_
    refine zn_icmp_gt (pc := 26) 88 dT_countCode_26 rfl (by omega) (by omega) (fun _ => ?_) (fun h9 => absurd h9 (by omega))
    exact zs_vret (pc := 88) dT_countCode_88 rfl (by omega) (by omega) (⟨rfl, rfl, rfl⟩)
  | succ i ih =>
    intro k hk
    have hz := ih (k + 1) (by omega)
    have hT := yTH.T (t := t) (E := zbump E c m k) (C := if cn = 1 then zbump C c 0 k else C) h0
    have hT2 := yTH.T (t := t) (E := zbump E c m (k + 1)) (C := if cn = 1 then zbump C c 0 k else C) h0
    have hlt := znd_lt hc (k := k) (by omega)
    have hs := znd_s hc (k := k) (by omega)
    have hmk := hm k (by omega)
    have hfin : Z Γ l mT_countCode d 0 0 (zFin Γ (zR none (yTH h t (zbump E c m 4) (if cn = 1 then zbump C c 0 4 else C)) n) 0 0) 54 [some (.ref t), some (.int (nI c)), some (.int met), some (.int (nI cn)), some (.int (nI (znd c k))), some (.int (nI k))] [] (yTH h t (zbump E c m (k + 1)) (if cn = 1 then zbump C c 0 k else C)) n 0 0 := by
      by_cases hcn1 : cn = 1
      · subst hcn1
        rw [if_pos rfl, if_pos rfl] at hz
        rw [if_pos rfl, if_pos rfl]
        rw [if_pos rfl] at hT2
        refine zs_iload_n (pc := 54) dT_countCode_54 rfl ?_
        refine zn_if_eq (pc := 55) 69 dT_countCode_55 rfl (by omega) (fun h9 => absurd h9 (by omega)) (fun _ => ?_)
        refine zs_aload_n (pc := 58) dT_countCode_58 rfl ?_
        refine zs_get (pc := 59) dT_countCode_59 fT_15 (by first | exact hT2.1 | exact hT2.2.1 | exact hT2.2.2) (by rfl) ?_
        refine zs_iload (pc := 62) dT_countCode_62 rfl ?_
        refine zs_dup2 (pc := 64) dT_countCode_64 rfl rfl ?_
        refine zn_iald (pc := 65) dT_countCode_65 (by first | exact hT2.1 | exact hT2.2.1 | exact hT2.2.2) (by omega) (by first | decide | assumption) ?_
        refine zs_iconst (pc := 66) dT_countCode_66 zi_1 ?_
        refine zn_iadd (pc := 67) dT_countCode_67 ?_
        refine zn_iast (pc := 68) dT_countCode_68 (by first | exact hT2.1 | exact hT2.2.1 | exact hT2.2.2) (by omega) (by first | decide | assumption) ?_
        rw [yTH.C, zbump_y hc (by omega) (Nat.zero_le _)]
        refine zs_iload (pc := 69) dT_countCode_69 rfl ?_
        refine zs_iload_n (pc := 71) dT_countCode_71 rfl ?_
        refine zs_iload (pc := 72) dT_countCode_72 rfl ?_
        refine zcS1_2 (pc := 74) (d2 := d - 1) (s_T_digitAt hl (by omega) (by omega)) dT_countCode_74 kT_18 mdT_digitAt msT_digitAt rfl (Nat.le_of_ble_eq_true rfl) (by omega) (by omega) (by omega) ?_
        refine zcS1_2 (pc := 77) (d2 := d - 1) (s_T_child hl) dT_countCode_77 kT_22 mdT_child msT_child rfl (Nat.le_of_ble_eq_true rfl) (by omega) (by omega) (by omega) ?_
        rw [hs]
        refine zs_istore (pc := 80) (ls2 := [_, _, _, _, _, _]) dT_countCode_80 (Nat.le_of_ble_eq_true rfl) rfl ?_
        refine zn_iinc (pc := 82) (ls2 := [_, _, _, _, _, _]) dT_countCode_82 rfl (Nat.le_of_ble_eq_true rfl) rfl ?_
        refine zs_goto (pc := 85) 23 dT_countCode_85 rfl ?_
        exact hz
      · obtain rfl : cn = 0 := by omega
        rw [if_neg (by decide), if_neg (by decide)] at hz
        rw [if_neg (by decide), if_neg (by decide)]
        refine zs_iload_n (pc := 54) dT_countCode_54 rfl ?_
        refine zn_if_eq (pc := 55) 69 dT_countCode_55 rfl (by omega) (fun _ => ?_) (fun h9 => absurd h9 (by omega))
        refine zs_iload (pc := 69) dT_countCode_69 rfl ?_
        refine zs_iload_n (pc := 71) dT_countCode_71 rfl ?_
        refine zs_iload (pc := 72) dT_countCode_72 rfl ?_
        refine zcS1_2 (pc := 74) (d2 := d - 1) (s_T_digitAt hl (by omega) (by omega)) dT_countCode_74 kT_18 mdT_digitAt msT_digitAt rfl (Nat.le_of_ble_eq_true rfl) (by omega) (by omega) (by omega) ?_
        refine zcS1_2 (pc := 77) (d2 := d - 1) (s_T_child hl) dT_countCode_77 kT_22 mdT_child msT_child rfl (Nat.le_of_ble_eq_true rfl) (by omega) (by omega) (by omega) ?_
        rw [hs]
        refine zs_istore (pc := 80) (ls2 := [_, _, _, _, _, _]) dT_countCode_80 (Nat.le_of_ble_eq_true rfl) rfl ?_
        refine zn_iinc (pc := 82) (ls2 := [_, _, _, _, _, _]) dT_countCode_82 rfl (Nat.le_of_ble_eq_true rfl) rfl ?_
        refine zs_goto (pc := 85) 23 dT_countCode_85 rfl ?_
        exact hz
    refine zs_iload (pc := 23) dT_countCode_23 rfl ?_
    refine zs_iconst (pc := 25) dT_countCode_25 zi_3 ?_
    refine zn_icmp_gt (pc := 26) 88 dT_countCode_26 rfl (by omega) (by omega) (fun h9 => absurd h9 (by omega)) (fun _ => ?_)
    refine zs_iload (pc := 29) dT_countCode_29 rfl ?_
    refine zs_sipush (pc := 31) dT_countCode_31 (zi_s 1111 (by decide)) ?_
    refine zn_icmp_ge (pc := 34) 88 dT_countCode_34 rfl (by omega) (by omega) (fun h9 => absurd h9 (by omega)) (fun _ => ?_)
    refine zs_iload (pc := 37) dT_countCode_37 rfl ?_
    refine zs_iload_n (pc := 39) dT_countCode_39 rfl ?_
    refine zs_icmp_le (pc := 40) 54 dT_countCode_40 rfl (fun hb => ?_) (fun hb => ?_)
    · rw [← zbump_n (hmk.mp hb)] at hfin
      exact hfin
    · refine zs_aload_n (pc := 43) dT_countCode_43 rfl ?_
      refine zs_get (pc := 44) dT_countCode_44 fT_11 (by first | exact hT.1 | exact hT.2.1 | exact hT.2.2) (by rfl) ?_
      refine zs_iload (pc := 47) dT_countCode_47 rfl ?_
      refine zs_dup2 (pc := 49) dT_countCode_49 rfl rfl ?_
      refine zn_iald (pc := 50) dT_countCode_50 (by first | exact hT.1 | exact hT.2.1 | exact hT.2.2) (by omega) (by first | decide | assumption) ?_
      refine zs_iconst (pc := 51) dT_countCode_51 zi_1 ?_
      refine zn_iadd (pc := 52) dT_countCode_52 ?_
      refine zn_iast (pc := 53) dT_countCode_53 (by first | exact hT.1 | exact hT.2.1 | exact hT.2.2) (by omega) (by first | decide | assumption) ?_
      rw [yTH.E, zbump_y hc (by omega) (Nat.not_lt.mp (fun q => hb (hmk.mpr q)))]
      exact hfin
theorem s_T_countCode {Γ : zG} {l : Launch} (hl : l.stackTraces = false) {d : Nat} (hd : 1 ≤ d) {h : zH} {n : Nat} {t c m : Nat} {met : Int32} {E C : Nat → Nat} (hT : TH h t E C) (hc : c < 1000) (hm : zmt met m) (hE : ∀ q, E q < 2 ^ 31) : zC Γ l d mT_countCode [.ref t, .int (nI c), .int met] h n 0 0 (zR none (yTH h t (zbump E c m 4) (if E (111 + c) = 0 then zbump C c 0 4 else C)) n) := by
  have hE9 := hE (111 + c)
  refine zC_of (ls := [some (.ref t), some (.int (nI c)), some (.int met), none, none, none]) hl (by decide +kernel) rfl (Nat.le_of_ble_eq_true rfl) rfl ?_
  refine zs_aload_n (pc := 0) dT_countCode_0 rfl ?_
  refine zs_bipush (pc := 1) dT_countCode_1 (zi_b 111 (by decide)) ?_
  refine zs_iload_n (pc := 3) dT_countCode_3 rfl ?_
  refine zn_iadd (pc := 4) dT_countCode_4 ?_
  refine zcV1_1 (pc := 5) (d2 := d - 1) (s_T_entriesAt hl hT (by omega)) dT_countCode_5 kT_60 mdT_entriesAt miT_entriesAt mvT_entriesAt rfl (by exact hT.1) rfl (Nat.le_of_ble_eq_true rfl) (by omega) (by omega) (by omega) ?_
  refine zn_if_ne (pc := 8) 15 dT_countCode_8 rfl (by omega) (fun hb => ?_) (fun hb => ?_)
  · have h9 := lp_T_countCode (Γ := Γ) hl hd (h := h) (n := n) (t := t) (c := c) (m := m) (cn := 0) (met := met) (E := E) (C := C) hT.1 hc hm (by decide) 4 0 rfl
    rw [zbump_0, if_neg (by decide), if_neg (by decide), yTH.id hT] at h9
    rw [if_neg hb]
    refine zs_iconst (pc := 15) dT_countCode_15 zi_0 ?_
    refine zs_istore_n (pc := 16) (ls2 := [_, _, _, _, _, _]) dT_countCode_16 (Nat.le_of_ble_eq_true rfl) rfl ?_
    refine zs_iconst (pc := 17) dT_countCode_17 zi_0 ?_
    refine zs_istore (pc := 18) (ls2 := [_, _, _, _, _, _]) dT_countCode_18 (Nat.le_of_ble_eq_true rfl) rfl ?_
    refine zs_iconst (pc := 20) dT_countCode_20 zi_0 ?_
    refine zs_istore (pc := 21) (ls2 := [_, _, _, _, _, _]) dT_countCode_21 (Nat.le_of_ble_eq_true rfl) rfl ?_
    exact h9
  · have h9 := lp_T_countCode (Γ := Γ) hl hd (h := h) (n := n) (t := t) (c := c) (m := m) (cn := 1) (met := met) (E := E) (C := C) hT.1 hc hm (by decide) 4 0 rfl
    rw [zbump_0, if_pos rfl, if_pos rfl, zbump_0, yTH.id hT] at h9
    rw [if_pos hb]
    refine zs_iconst (pc := 11) dT_countCode_11 zi_1 ?_
    refine zs_goto (pc := 12) 16 dT_countCode_12 rfl ?_
    refine zs_istore_n (pc := 16) (ls2 := [_, _, _, _, _, _]) dT_countCode_16 (Nat.le_of_ble_eq_true rfl) rfl ?_
    refine zs_iconst (pc := 17) dT_countCode_17 zi_0 ?_
    refine zs_istore (pc := 18) (ls2 := [_, _, _, _, _, _]) dT_countCode_18 (Nat.le_of_ble_eq_true rfl) rfl ?_
    refine zs_iconst (pc := 20) dT_countCode_20 zi_0 ?_
    refine zs_istore (pc := 21) (ls2 := [_, _, _, _, _, _]) dT_countCode_21 (Nat.le_of_ble_eq_true rfl) rfl ?_
    exact h9

