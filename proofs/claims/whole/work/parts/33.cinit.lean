/-! what new objects hold -/
theorem zs_ext {Γ : zG} {l : Launch} {M : zM} {d mc ms : Nat} {FN : List Frame → Array Value → State → State → Prop} {pc : Nat} {ls : List (Option Value)} {st : List Value} {h : zH} {n k ks a kd : Nat} {x x2 : vp_A} (hh : h a = some (.inl (kd, x))) (he : ∀ cA : ClassId, vp_cell cA x = vp_cell cA x2) (K : Z Γ l M d mc ms FN pc ls st (zu h a (.inl (kd, x2))) n k ks) : Z Γ l M d mc ms FN pc ls st h n k ks := fun p e R s m args below meth c lsA H locs B L P S => K p e R s m args below meth c lsA H locs B L ⟨P.1, fun q e9 hq => by
  by_cases hqa : q = a
  · subst hqa
    rw [zu_s] at hq
    cases hq
    obtain ⟨h1, h2⟩ := P.2 q _ hh
    refine ⟨h1, ?_⟩
    have h3 : H[q]? = some (vp_cell (zgA Γ kd) x) := h2
    show H[q]? = some (vp_cell (zgA Γ kd) x2)
    rw [← he]
    exact h3
  · rw [zu_n hqa] at hq
    exact P.2 q e9 hq⟩ S
theorem arrV_ext {cA : ClassId} {N : Nat} {f f2 : Nat → Value} (h : ∀ j, j < N → f j = f2 j) : arrV cA N f = arrV cA N f2 := by
  unfold arrV
  congr 1
  apply congrArg
  funext j
  exact h j.val j.isLt
theorem zs_extq {Γ : zG} {l : Launch} {M : zM} {d mc ms : Nat} {FN : List Frame → Array Value → State → State → Prop} {pc : Nat} {ls : List (Option Value)} {st : List Value} {h : zH} {n k ks a kd N : Nat} {f : Nat → Option Nat} (f2 : Nat → Option Nat) (hh : h a = some (.inl (kd, N, .inr (.inr (.inr (.inr f)))))) (he : ∀ j, j < N → f j = f2 j) (K : Z Γ l M d mc ms FN pc ls st (zu h a (.inl (kd, N, .inr (.inr (.inr (.inr f2)))))) n k ks) : Z Γ l M d mc ms FN pc ls st h n k ks := zs_ext hh (fun cA => by
  rw [vp_cell_q, vp_cell_q]
  exact arrV_ext fun j hj => by rw [he j hj]) K
theorem zs_extn {Γ : zG} {l : Launch} {M : zM} {d mc ms : Nat} {FN : List Frame → Array Value → State → State → Prop} {pc : Nat} {ls : List (Option Value)} {st : List Value} {h : zH} {n k ks a kd N : Nat} {u : Nat → Nat} (u2 : Nat → Nat) (hh : h a = some (zAr kd N u)) (he : ∀ j, j < N → u j = u2 j) (K : Z Γ l M d mc ms FN pc ls st (zu h a (zAr kd N u2)) n k ks) : Z Γ l M d mc ms FN pc ls st h n k ks := zs_ext hh (fun cA => by
  rw [vp_cell_i, vp_cell_i]
  exact arrV_ext fun j hj => by rw [he j hj]) K
theorem zfsC : ∀ j, j < 8 → defaultValue (ztC j) = vp_V [.null, .int (nI 0), .int (nI 0), .int (nI 0), .int (nI 0), .int (nI 0), .int (nI 0), .int (nI 0)] j := by
  intro j hj
  match j, hj with
  | 0, _ => rfl
  | 1, _ => rfl
  | 2, _ => rfl
  | 3, _ => rfl
  | 4, _ => rfl
  | 5, _ => rfl
  | 6, _ => rfl
  | 7, _ => rfl
  | j + 8, hj => exact absurd hj (by omega)
theorem zfsE : ∀ j, j < 7 → defaultValue (ztE j) = vp_V [.int (nI 0), .int (nI 0), .int (nI 0), .int (nI 0), .int (nI 0), .int (nI 0), .null] j := by
  intro j hj
  match j, hj with
  | 0, _ => rfl
  | 1, _ => rfl
  | 2, _ => rfl
  | 3, _ => rfl
  | 4, _ => rfl
  | 5, _ => rfl
  | 6, _ => rfl
  | j + 7, hj => exact absurd hj (by omega)
theorem zfsH : ∀ j, j < 3 → defaultValue (ztH j) = vp_V [.null, .int (nI 0), .int (nI 0)] j := by
  intro j hj
  match j, hj with
  | 0, _ => rfl
  | 1, _ => rfl
  | 2, _ => rfl
  | j + 3, hj => exact absurd hj (by omega)
theorem zfsL : ∀ j, j < 3 → defaultValue (ztL j) = vp_V [.null, .null, .int (nI 0)] j := by
  intro j hj
  match j, hj with
  | 0, _ => rfl
  | 1, _ => rfl
  | 2, _ => rfl
  | j + 3, hj => exact absurd hj (by omega)
theorem zfsP : ∀ j, j < 9 → defaultValue (ztP j) = vp_V [.null, .int (nI 0), .int (nI 0), .int (nI 0), .int (nI 0), .null, .null, .null, .int (nI 0)] j := by
  intro j hj
  match j, hj with
  | 0, _ => rfl
  | 1, _ => rfl
  | 2, _ => rfl
  | 3, _ => rfl
  | 4, _ => rfl
  | 5, _ => rfl
  | 6, _ => rfl
  | 7, _ => rfl
  | 8, _ => rfl
  | j + 9, hj => exact absurd hj (by omega)
theorem zfsR : ∀ j, j < 3 → defaultValue (ztR j) = vp_V [.null, .null, .int (nI 0)] j := by
  intro j hj
  match j, hj with
  | 0, _ => rfl
  | 1, _ => rfl
  | 2, _ => rfl
  | j + 3, hj => exact absurd hj (by omega)
theorem zfsT : ∀ j, j < 2 → defaultValue (ztT j) = vp_V [.null, .null] j := by
  intro j hj
  match j, hj with
  | 0, _ => rfl
  | 1, _ => rfl
  | j + 2, hj => exact absurd hj (by omega)
theorem zfsX : ∀ j, j < 12 → defaultValue (ztX j) = vp_V [.null, .null, .null, .null, .null, .null, .null, .null, .int (nI 0), .int (nI 0), .int (nI 0), .int (nI 0)] j := by
  intro j hj
  match j, hj with
  | 0, _ => rfl
  | 1, _ => rfl
  | 2, _ => rfl
  | 3, _ => rfl
  | 4, _ => rfl
  | 5, _ => rfl
  | 6, _ => rfl
  | 7, _ => rfl
  | 8, _ => rfl
  | 9, _ => rfl
  | 10, _ => rfl
  | 11, _ => rfl
  | j + 12, hj => exact absurd hj (by omega)
theorem zfsM : ∀ j, j < 21 → defaultValue (ztM j) = vp_V [.null, .null, .null, .int (nI 0), .null, .int (nI 0), .int (nI 0), .int (nI 0), .int (nI 0), .null, .int (nI 0), .null, .int (nI 0), .null, .null, .null, .int (nI 0), .int (nI 0), .int (nI 0), .int (nI 0), .int (nI 0)] j := by
  intro j hj
  match j, hj with
  | 0, _ => rfl
  | 1, _ => rfl
  | 2, _ => rfl
  | 3, _ => rfl
  | 4, _ => rfl
  | 5, _ => rfl
  | 6, _ => rfl
  | 7, _ => rfl
  | 8, _ => rfl
  | 9, _ => rfl
  | 10, _ => rfl
  | 11, _ => rfl
  | 12, _ => rfl
  | 13, _ => rfl
  | 14, _ => rfl
  | 15, _ => rfl
  | 16, _ => rfl
  | 17, _ => rfl
  | 18, _ => rfl
  | 19, _ => rfl
  | 20, _ => rfl
  | j + 21, hj => exact absurd hj (by omega)
def zFz : Nat → Nat := fun j => if j = 3 then 1 else 0
theorem lp_C_init {Γ : zG} {l : Launch} (hl : l.stackTraces = false) {d : Nat} (hd : 1 ≤ d) {h : zH} {r : Nat} : ∀ i j, i + j = 20 → ∀ (h1 : zH) (f : Nat → Option Nat), h1 r = some (zCo zFz (r + 1)) → h1 (r + 1) = some (.inl (2, 20, .inr (.inr (.inr (.inr f))))) → (∀ s, s < j → f s = some (r + 2 + 2 * s)) → (∀ s, s < j → h1 (r + 2 + 2 * s) = some (zEo (fun _ => 0) (r + 3 + 2 * s)) ∧ h1 (r + 3 + 2 * s) = some (zEc (fun _ => 0))) → zfr r 42 h h1 → Z Γ l mC_init d 41 280 (zFin Γ (fun o h2 n2 => o = .inl none ∧ n2 = r + 42 ∧ zfr r 42 h h2 ∧ CH h2 r (fun j => j) (fun _ _ => 0) zFz) 41 280) 50 [some (.ref r), some (.int (nI j))] [] h1 (r + 2 + 2 * j) (1 + 2 * j) (20 + 13 * j) := by
  intro i
  induction i with
  | zero =>
    intro j hj h1 f g1 g2 g3 g4 hfr
    obtain rfl : j = 20 := by omega
    refine zs_iload_n (pc := 50) dC_init_50 rfl ?_
    refine zs_bipush (pc := 51) dC_init_51 (zi_b 20 (by decide)) ?_
    refine zn_icmp_ge (pc := 53) 75 dC_init_53 rfl (by omega) (by omega) (fun _ => ?_) (fun h9 => absurd h9 (by omega))
    refine zs_extq (fun s => some (r + 2 + 2 * s)) g2 g3 ?_
    exact zs_vret (pc := 75) dC_init_75 rfl (by omega) (by omega) (⟨rfl, by omega, hfr.tr (zfr.u (by omega) (by omega)), by rw [zu_n (by omega)]; exact g1, zu_s, fun s hs => ⟨by rw [zu_n (by omega)]; exact (g4 s hs).1, by rw [zu_n (by omega)]; exact (g4 s hs).2⟩⟩)
  | succ i ih =>
    intro j hj h1 f g1 g2 g3 g4 hfr
    refine zs_iload_n (pc := 50) dC_init_50 rfl ?_
    refine zs_bipush (pc := 51) dC_init_51 (zi_b 20 (by decide)) ?_
    refine zn_icmp_ge (pc := 53) 75 dC_init_53 rfl (by omega) (by omega) (fun h9 => absurd h9 (by omega)) (fun _ => ?_)
    refine zs_aload_n (pc := 56) dC_init_56 rfl ?_
    refine zs_get (pc := 57) dC_init_57 fC_11 (by first | exact h0 | exact g1 | exact zu_s | (rw [zu_n (by omega)]; exact h0) | exact w1 | exact w2) (by rfl) ?_
    refine zs_iload_n (pc := 60) dC_init_60 rfl ?_
    refine zs_new (pc := 61) (ci := 1) (N := 7) (T := zTE) (fs := [.int (nI 0), .int (nI 0), .int (nI 0), .int (nI 0), .int (nI 0), .int (nI 0), .null]) dC_init_61 rfl zcE_ok kcC_9 (zt1 (i := 42) rfl) (zt1 (i := 3) rfl) zfsE (by omega) (by omega) ?_
    refine zs_dup (pc := 64) dC_init_64 rfl ?_
    refine zcINR_0 (pc := 65) (d2 := d - 1) (s_E_init hl zu_s (by omega)) dC_init_65 knC_39 mdE_init miE_init rfl rfl rfl (Nat.le_of_ble_eq_true rfl) (by omega) (by omega) (by omega) (fun v h1 n1 hq => ?_) (fun E h1 n1 hq => ?_)
    · obtain ⟨hv, rfl, rfl⟩ := hq
      obtain rfl := Sum.inl.inj hv
      have w1 : zEh (zu h1 (r + 2 + 2 * j) (.inr (1, [.int (nI 0), .int (nI 0), .int (nI 0), .int (nI 0), .int (nI 0), .int (nI 0), .null]))) (r + 2 + 2 * j) (r + 2 + 2 * j + 1) (fun _ => 0) (r + 1) = some (.inl (2, 20, .inr (.inr (.inr (.inr f))))) := by rw [zEh_n (by omega) (by omega), zu_n (by omega)]; exact g2
      have w2 : zEh (zu h1 (r + 2 + 2 * j) (.inr (1, [.int (nI 0), .int (nI 0), .int (nI 0), .int (nI 0), .int (nI 0), .int (nI 0), .null]))) (r + 2 + 2 * j) (r + 2 + 2 * j + 1) (fun _ => 0) (r + 2 + 2 * j) = some (zEo (fun _ => 0) (r + 2 + 2 * j + 1)) := zEh_e (by omega)
      refine zn_aast (pc := 68) (kd := 2) dC_init_68 (by decide) (by first | exact h0 | exact g1 | exact zu_s | (rw [zu_n (by omega)]; exact h0) | exact w1 | exact w2) (by first | exact h0 | exact g1 | exact zu_s | (rw [zu_n (by omega)]; exact h0) | exact w1 | exact w2) (by rfl) (by rfl) (by omega) (by decide) ?_
      refine zn_iinc (pc := 69) (ls2 := [_, _]) dC_init_69 rfl (Nat.le_of_ble_eq_true rfl) rfl ?_
      refine zs_goto (pc := 72) 50 dC_init_72 rfl ?_
      have h9 := ih (j + 1) (by omega) (zu (zEh (zu h1 (r + 2 + 2 * j) (.inr (1, [.int (nI 0), .int (nI 0), .int (nI 0), .int (nI 0), .int (nI 0), .int (nI 0), .null]))) (r + 2 + 2 * j) (r + 2 + 2 * j + 1) (fun _ => 0)) (r + 1) (.inl (2, 20, .inr (.inr (.inr (.inr (va_up f j (some (r + 2 + 2 * j))))))))) (va_up f j (some (r + 2 + 2 * j))) (by rw [zu_n (by omega), zEh_n (by omega) (by omega), zu_n (by omega)]; exact g1) zu_s (fun s hs => ?_) (fun s hs => ?_) (fun q hq => ?_)
      · have e1 : r + 2 + 2 * (j + 1) = r + 2 + 2 * j + 1 + 1 := by omega
        have e2 : 1 + 2 * (j + 1) = 1 + 2 * j + 1 + 1 := by omega
        have e3 : 20 + 13 * (j + 1) = 20 + 13 * j + 7 + 6 := by omega
        rw [e1, e2, e3] at h9
        exact h9
      · unfold va_up
        by_cases e : s = j
        · subst e
          rw [if_pos rfl]
        · rw [if_neg e]
          exact g3 s (by omega)
      · by_cases e : s = j
        · subst e
          rw [zu_n (by omega), zu_n (by omega), show r + 3 + 2 * s = r + 2 + 2 * s + 1 by omega]
          exact ⟨zEh_e (by omega), zEh_c⟩
        · rw [zu_n (by omega), zEh_n (by omega) (by omega), zu_n (by omega), zu_n (by omega), zEh_n (by omega) (by omega), zu_n (by omega)]
          exact g4 s (by omega)
      · rw [zu_n (by omega), zEh_n (by omega) (by omega), zu_n (by omega)]
        exact hfr q hq
    · exact absurd hq.1 (by intro q; cases q)
theorem s_C_init {Γ : zG} {l : Launch} (hl : l.stackTraces = false) {d : Nat} (hd : 1 ≤ d) {h : zH} {r : Nat} (h0 : h r = some (.inr (0, [.null, .int (nI 0), .int (nI 0), .int (nI 0), .int (nI 0), .int (nI 0), .int (nI 0), .int (nI 0)]))) : zC Γ l d mC_init [.ref r] h (r + 1) 41 280 (fun o h2 n2 => o = .inl none ∧ n2 = r + 42 ∧ zfr r 42 h h2 ∧ CH h2 r (fun j => j) (fun _ _ => 0) zFz) := by
  refine zC_of (ls := [some (.ref r), none]) hl (by decide +kernel) rfl (Nat.le_of_ble_eq_true rfl) rfl ?_
  refine zs_aload_n (pc := 0) dC_init_0 rfl ?_
  refine zs_objInit (pc := 1) dC_init_1 kC_3 (Nat.le_of_ble_eq_true rfl) ?_
  refine zs_aload_n (pc := 4) dC_init_4 rfl ?_
  refine zs_bipush (pc := 5) dC_init_5 (zi_b 20 (by decide)) ?_
  refine zs_newq (pc := 7) (kd := 2) (N := 20) dC_init_7 (Or.inl rfl) rfl kcC_9 (zt1 (i := 41) rfl) (by decide) (by decide) (by decide) (by omega) (by omega) ?_
  refine zs_putF (pc := 10) (fs2 := [_, _, _, _, _, _, _, _]) dC_init_10 rfl fC_11 ⟨_, _, rfl⟩ (by first | exact h0 | exact g1 | exact zu_s | (rw [zu_n (by omega)]; exact h0) | exact w1 | exact w2) (by rfl) (by rfl) (by exact Nat.le_of_ble_eq_true rfl) (by rfl) ?_
  refine zs_aload_n (pc := 13) dC_init_13 rfl ?_
  refine zs_iconst (pc := 14) dC_init_14 zi_0 ?_
  refine zs_putU (pc := 15) (fs2 := [_, _, _, _, _, _, _, _]) dC_init_15 fC_17 (by rfl) (by rfl) (by exact Nat.le_of_ble_eq_true rfl) (by rfl) ?_
  refine zs_aload_n (pc := 18) dC_init_18 rfl ?_
  refine zs_iconst (pc := 19) dC_init_19 zi_0 ?_
  refine zs_putU (pc := 20) (fs2 := [_, _, _, _, _, _, _, _]) dC_init_20 fC_21 (by rfl) (by rfl) (by exact Nat.le_of_ble_eq_true rfl) (by rfl) ?_
  refine zs_aload_n (pc := 23) dC_init_23 rfl ?_
  refine zs_iconst (pc := 24) dC_init_24 zi_1 ?_
  refine zs_putU (pc := 25) (fs2 := [_, _, _, _, _, _, _, _]) dC_init_25 fC_24 (by rfl) (by rfl) (by exact Nat.le_of_ble_eq_true rfl) (by rfl) ?_
  refine zs_aload_n (pc := 28) dC_init_28 rfl ?_
  refine zs_iconst (pc := 29) dC_init_29 zi_0 ?_
  refine zs_putU (pc := 30) (fs2 := [_, _, _, _, _, _, _, _]) dC_init_30 fC_27 (by rfl) (by rfl) (by exact Nat.le_of_ble_eq_true rfl) (by rfl) ?_
  refine zs_aload_n (pc := 33) dC_init_33 rfl ?_
  refine zs_iconst (pc := 34) dC_init_34 zi_0 ?_
  refine zs_putU (pc := 35) (fs2 := [_, _, _, _, _, _, _, _]) dC_init_35 fC_30 (by rfl) (by rfl) (by exact Nat.le_of_ble_eq_true rfl) (by rfl) ?_
  refine zs_aload_n (pc := 38) dC_init_38 rfl ?_
  refine zs_iconst (pc := 39) dC_init_39 zi_0 ?_
  refine zs_putU (pc := 40) (fs2 := [_, _, _, _, _, _, _, _]) dC_init_40 fC_33 (by rfl) (by rfl) (by exact Nat.le_of_ble_eq_true rfl) (by rfl) ?_
  refine zs_aload_n (pc := 43) dC_init_43 rfl ?_
  refine zs_iconst (pc := 44) dC_init_44 zi_0 ?_
  refine zs_putU (pc := 45) (fs2 := [_, _, _, _, _, _, _, _]) dC_init_45 fC_36 (by rfl) (by rfl) (by exact Nat.le_of_ble_eq_true rfl) (by rfl) ?_
  refine zs_iconst (pc := 48) dC_init_48 zi_0 ?_
  refine zs_istore_n (pc := 49) (ls2 := [_, _]) dC_init_49 (Nat.le_of_ble_eq_true rfl) rfl ?_
  have h9 := lp_C_init (Γ := Γ) hl hd (h := h) (r := r) 20 0 rfl (zu (zu h (r + 1) (.inl (2, 20, .inr (.inr (.inr (.inr (fun _ => none))))))) r (zCo zFz (r + 1))) (fun _ => none) zu_s (by rw [zu_n (by omega)]; exact zu_s) (fun s hs => absurd hs (by omega)) (fun s hs => absurd hs (by omega)) ((zfr.u (by omega) (by omega)).tr (zfr.u (by omega) (by omega)))
  exact h9

