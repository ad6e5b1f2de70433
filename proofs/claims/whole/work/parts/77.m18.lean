/-! the model: programs -/
theorem s_M_does {Γ : zG} {l : Launch} (hl : l.stackTraces = false) {d : Nat} (hd : 5 ≤ d) {h : zH} {n a : Nat} {g : Nat → Nat} {s3 s5 s6 s7 s10 s12 s16 s17 s18 s19 s20 : Int32} {C : Nat → Nat} {B from9 k x y : Nat} (hC9 : h (a + 9) = some (zAr 0 183 C)) (hI : IG B g) (hB2 : B + 20 < 2 ^ 20) (hf : from9 + 2 < 183) (hk : k < 10) (e0 : C from9 = k) (e1 : k ≠ 6 → C (from9 + 1) = x) (e2 : (k = 1 ∨ k = 2 ∨ k = 5 ∨ k = 8) → C (from9 + 2) = y) : zC Γ l d mM_does [.ref a, .int (nI from9)] (z2 h a (zAr 0 246 (g)) (zMo a s3 s5 s6 s7 (nI 0) s10 s12 s16 s17 s18 s19 s20)) n 0 0 (zR none (z2 h a (zAr 0 246 ((zdo g k (nI x) (nI y)).2.2)) (zMo a s3 s5 s6 s7 (nI (zdo g k (nI x) (nI y)).1) s10 s12 s16 s17 s18 s19 s20)) n) := by
  have hB : B < 2 ^ 20 := by omega
  refine zC_of (ls := [some (.ref a), some (.int (nI from9)), none, none]) hl (by decide +kernel) rfl (Nat.le_of_ble_eq_true rfl) rfl ?_
  refine zs_aload_n (pc := 0) dM_does_0 rfl ?_
  refine zs_get (pc := 1) dM_does_1 fM_42 (by first | exact z2_a | exact z2_1 | (rw [z2_n (by omega) (by omega)]; exact hC9) | (rw [z2_n (by omega) (by omega), zu_n (by omega)]; exact zu_s)) (by rfl) ?_
  refine zs_iload_n (pc := 4) dM_does_4 rfl ?_
  refine zs_iconst (pc := 5) dM_does_5 zi_1 ?_
  refine zn_iadd (pc := 6) dM_does_6 ?_
  refine zn_iald (pc := 7) dM_does_7 (by first | exact z2_a | exact z2_1 | (rw [z2_n (by omega) (by omega)]; exact hC9) | (rw [z2_n (by omega) (by omega), zu_n (by omega)]; exact zu_s)) (by omega) (by first | decide | assumption) ?_
  refine zs_istore_n (pc := 8) (ls2 := [_, _, _, _]) dM_does_8 (Nat.le_of_ble_eq_true rfl) rfl ?_
  refine zs_aload_n (pc := 9) dM_does_9 rfl ?_
  refine zs_get (pc := 10) dM_does_10 fM_42 (by first | exact z2_a | exact z2_1 | (rw [z2_n (by omega) (by omega)]; exact hC9) | (rw [z2_n (by omega) (by omega), zu_n (by omega)]; exact zu_s)) (by rfl) ?_
  refine zs_iload_n (pc := 13) dM_does_13 rfl ?_
  refine zs_iconst (pc := 14) dM_does_14 zi_2 ?_
  refine zn_iadd (pc := 15) dM_does_15 ?_
  refine zn_iald (pc := 16) dM_does_16 (by first | exact z2_a | exact z2_1 | (rw [z2_n (by omega) (by omega)]; exact hC9) | (rw [z2_n (by omega) (by omega), zu_n (by omega)]; exact zu_s)) (by omega) (by first | decide | assumption) ?_
  refine zs_istore_n (pc := 17) (ls2 := [_, _, _, _]) dM_does_17 (Nat.le_of_ble_eq_true rfl) rfl ?_
  refine zs_aload_n (pc := 18) dM_does_18 rfl ?_
  refine zs_get (pc := 19) dM_does_19 fM_42 (by first | exact z2_a | exact z2_1 | (rw [z2_n (by omega) (by omega)]; exact hC9) | (rw [z2_n (by omega) (by omega), zu_n (by omega)]; exact zu_s)) (by rfl) ?_
  refine zs_iload_n (pc := 22) dM_does_22 rfl ?_
  refine zn_iald (pc := 23) dM_does_23 (by first | exact z2_a | exact z2_1 | (rw [z2_n (by omega) (by omega)]; exact hC9) | (rw [z2_n (by omega) (by omega), zu_n (by omega)]; exact zu_s)) (by omega) (by first | decide | assumption) ?_
  rw [e0]
  match k, hk with
  | 0, _ =>
    have eo : zdo g 0 (nI x) (nI y) = zopAdd g (nI (C (from9 + 1))) := by rw [← e1 (by decide)]; rfl
    rw [eo]
    refine zs_tableIn (pc := 24) (off := 52) 76 dM_does_24 (by decide) (by decide) (by decide) rfl ?_
    refine zs_aload_n (pc := 76) dM_does_76 rfl ?_
    refine zs_iload_n (pc := 77) dM_does_77 rfl ?_
    refine zcV1_1 (pc := 78) (d2 := d - 1) (s_M_entryIt hl (by omega) hI hB (nI (C (from9 + 1)))) dM_does_78 kM_96 mdM_entryIt miM_entryIt mvM_entryIt rfl (by exact z2_a) rfl (Nat.le_of_ble_eq_true rfl) (by omega) (by omega) (by omega) ?_
    rw [zmth_0]
    refine zs_pop (pc := 81) dM_does_81 rfl ?_
    refine zs_goto (pc := 82) 166 dM_does_82 rfl ?_
    exact zs_vret (pc := 166) dM_does_166 rfl (by omega) (by omega) (⟨rfl, rfl, rfl⟩)
  | 1, _ =>
    have eo : zdo g 1 (nI x) (nI y) = zopCode g (nI (C (from9 + 1))) (nI (C (from9 + 2))) := by rw [← e1 (by decide), ← e2 (by decide)]; rfl
    rw [eo]
    refine zs_tableIn (pc := 24) (off := 61) 85 dM_does_24 (by decide) (by decide) (by decide) rfl ?_
    refine zs_aload_n (pc := 85) dM_does_85 rfl ?_
    refine zs_iload_n (pc := 86) dM_does_86 rfl ?_
    refine zs_iload_n (pc := 87) dM_does_87 rfl ?_
    refine zcV1_2 (pc := 88) (d2 := d - 1) (s_M_codeIt hl (by omega) hI hB (nI (C (from9 + 1))) (nI (C (from9 + 2)))) dM_does_88 kM_111 mdM_codeIt miM_codeIt mvM_codeIt rfl (by exact z2_a) rfl (Nat.le_of_ble_eq_true rfl) (by omega) (by omega) (by omega) ?_
    rw [zmth_0]
    refine zs_pop (pc := 91) dM_does_91 rfl ?_
    refine zs_goto (pc := 92) 166 dM_does_92 rfl ?_
    exact zs_vret (pc := 166) dM_does_166 rfl (by omega) (by omega) (⟨rfl, rfl, rfl⟩)
  | 2, _ =>
    have eo : zdo g 2 (nI x) (nI y) = zopUncode g (nI (C (from9 + 1))) (nI (C (from9 + 2))) := by rw [← e1 (by decide), ← e2 (by decide)]; rfl
    rw [eo]
    refine zs_tableIn (pc := 24) (off := 71) 95 dM_does_24 (by decide) (by decide) (by decide) rfl ?_
    refine zs_aload_n (pc := 95) dM_does_95 rfl ?_
    refine zs_iload_n (pc := 96) dM_does_96 rfl ?_
    refine zs_iload_n (pc := 97) dM_does_97 rfl ?_
    refine zcV1_2 (pc := 98) (d2 := d - 1) (s_M_uncodeIt hl (by omega) hI hB (nI (C (from9 + 1))) (nI (C (from9 + 2)))) dM_does_98 kM_114 mdM_uncodeIt miM_uncodeIt mvM_uncodeIt rfl (by exact z2_a) rfl (Nat.le_of_ble_eq_true rfl) (by omega) (by omega) (by omega) ?_
    rw [zmth_0]
    refine zs_pop (pc := 101) dM_does_101 rfl ?_
    refine zs_goto (pc := 102) 166 dM_does_102 rfl ?_
    exact zs_vret (pc := 166) dM_does_166 rfl (by omega) (by omega) (⟨rfl, rfl, rfl⟩)
  | 3, _ =>
    have eo : zdo g 3 (nI x) (nI y) = zopDrop g (nI (C (from9 + 1))) := by rw [← e1 (by decide)]; rfl
    rw [eo]
    refine zs_tableIn (pc := 24) (off := 81) 105 dM_does_24 (by decide) (by decide) (by decide) rfl ?_
    refine zs_aload_n (pc := 105) dM_does_105 rfl ?_
    refine zs_iload_n (pc := 106) dM_does_106 rfl ?_
    refine zcV1_1 (pc := 107) (d2 := d - 1) (s_M_dropIt hl (by omega) hI hB (nI (C (from9 + 1)))) dM_does_107 kM_121 mdM_dropIt miM_dropIt mvM_dropIt rfl (by exact z2_a) rfl (Nat.le_of_ble_eq_true rfl) (by omega) (by omega) (by omega) ?_
    rw [zmth_0]
    refine zs_pop (pc := 110) dM_does_110 rfl ?_
    refine zs_goto (pc := 111) 166 dM_does_111 rfl ?_
    exact zs_vret (pc := 166) dM_does_166 rfl (by omega) (by omega) (⟨rfl, rfl, rfl⟩)
  | 4, _ =>
    have eo : zdo g 4 (nI x) (nI y) = zopTouch g (nI (C (from9 + 1))) := by rw [← e1 (by decide)]; rfl
    rw [eo]
    refine zs_tableIn (pc := 24) (off := 90) 114 dM_does_24 (by decide) (by decide) (by decide) rfl ?_
    refine zs_aload_n (pc := 114) dM_does_114 rfl ?_
    refine zs_iload_n (pc := 115) dM_does_115 rfl ?_
    refine zcV1_1 (pc := 116) (d2 := d - 1) (s_M_touchIt hl (by omega) hI hB (nI (C (from9 + 1)))) dM_does_116 kM_124 mdM_touchIt miM_touchIt mvM_touchIt rfl (by exact z2_a) rfl (Nat.le_of_ble_eq_true rfl) (by omega) (by omega) (by omega) ?_
    rw [zmth_0]
    refine zs_pop (pc := 119) dM_does_119 rfl ?_
    refine zs_goto (pc := 120) 166 dM_does_120 rfl ?_
    exact zs_vret (pc := 166) dM_does_166 rfl (by omega) (by omega) (⟨rfl, rfl, rfl⟩)
  | 5, _ =>
    have eo : zdo g 5 (nI x) (nI y) = zopMerge g (nI (C (from9 + 1))) (nI (C (from9 + 2))) := by rw [← e1 (by decide), ← e2 (by decide)]; rfl
    rw [eo]
    refine zs_tableIn (pc := 24) (off := 99) 123 dM_does_24 (by decide) (by decide) (by decide) rfl ?_
    refine zs_aload_n (pc := 123) dM_does_123 rfl ?_
    refine zs_iload_n (pc := 124) dM_does_124 rfl ?_
    refine zs_iload_n (pc := 125) dM_does_125 rfl ?_
    refine zcV1_2 (pc := 126) (d2 := d - 1) (s_M_mergeIt hl (by omega) hI hB (nI (C (from9 + 1))) (nI (C (from9 + 2)))) dM_does_126 kM_133 mdM_mergeIt miM_mergeIt mvM_mergeIt rfl (by exact z2_a) rfl (Nat.le_of_ble_eq_true rfl) (by omega) (by omega) (by omega) ?_
    rw [zmth_0]
    refine zs_pop (pc := 129) dM_does_129 rfl ?_
    refine zs_goto (pc := 130) 166 dM_does_130 rfl ?_
    exact zs_vret (pc := 166) dM_does_166 rfl (by omega) (by omega) (⟨rfl, rfl, rfl⟩)
  | 6, _ =>
    have eo : zdo g 6 (nI x) (nI y) = zopSeg g := by rfl
    rw [eo]
    refine zs_tableIn (pc := 24) (off := 109) 133 dM_does_24 (by decide) (by decide) (by decide) rfl ?_
    refine zs_aload_n (pc := 133) dM_does_133 rfl ?_
    refine zcV1_0 (pc := 134) (d2 := d - 1) (s_M_segmentIt hl (by omega) hI hB) dM_does_134 kM_136 mdM_segmentIt miM_segmentIt mvM_segmentIt rfl (by exact z2_a) rfl (Nat.le_of_ble_eq_true rfl) (by omega) (by omega) (by omega) ?_
    rw [zmth_0]
    refine zs_pop (pc := 137) dM_does_137 rfl ?_
    refine zs_goto (pc := 138) 166 dM_does_138 rfl ?_
    exact zs_vret (pc := 166) dM_does_166 rfl (by omega) (by omega) (⟨rfl, rfl, rfl⟩)
  | 7, _ =>
    have eo : zdo g 7 (nI x) (nI y) = zopJoin g (nI (C (from9 + 1))) := by rw [← e1 (by decide)]; rfl
    rw [eo]
    refine zs_tableIn (pc := 24) (off := 117) 141 dM_does_24 (by decide) (by decide) (by decide) rfl ?_
    refine zs_aload_n (pc := 141) dM_does_141 rfl ?_
    refine zs_iload_n (pc := 142) dM_does_142 rfl ?_
    refine zcV1_1 (pc := 143) (d2 := d - 1) (s_M_joinIt hl (by omega) hI hB (nI (C (from9 + 1)))) dM_does_143 kM_140 mdM_joinIt miM_joinIt mvM_joinIt rfl (by exact z2_a) rfl (Nat.le_of_ble_eq_true rfl) (by omega) (by omega) (by omega) ?_
    rw [zmth_0]
    refine zs_pop (pc := 146) dM_does_146 rfl ?_
    refine zs_goto (pc := 147) 166 dM_does_147 rfl ?_
    exact zs_vret (pc := 166) dM_does_166 rfl (by omega) (by omega) (⟨rfl, rfl, rfl⟩)
  | 8, _ =>
    have eo : zdo g 8 (nI x) (nI y) = zopFind g (nI (C (from9 + 1))) (nI (C (from9 + 2))) := by rw [← e1 (by decide), ← e2 (by decide)]; rfl
    rw [eo]
    refine zs_tableIn (pc := 24) (off := 126) 150 dM_does_24 (by decide) (by decide) (by decide) rfl ?_
    refine zs_aload_n (pc := 150) dM_does_150 rfl ?_
    refine zs_iload_n (pc := 151) dM_does_151 rfl ?_
    refine zs_iload_n (pc := 152) dM_does_152 rfl ?_
    refine zcV1_2 (pc := 153) (d2 := d - 1) (s_M_searchIt hl (by omega) hI hB (nI (C (from9 + 1))) (nI (C (from9 + 2)))) dM_does_153 kM_146 mdM_searchIt miM_searchIt mvM_searchIt rfl (by exact z2_a) rfl (Nat.le_of_ble_eq_true rfl) (by omega) (by omega) (by omega) ?_
    rw [zmth_0]
    refine zs_pop (pc := 156) dM_does_156 rfl ?_
    refine zs_goto (pc := 157) 166 dM_does_157 rfl ?_
    exact zs_vret (pc := 166) dM_does_166 rfl (by omega) (by omega) (⟨rfl, rfl, rfl⟩)
  | 9, _ =>
    have eo : zdo g 9 (nI x) (nI y) = zopPass g (nI (C (from9 + 1))) := by rw [← e1 (by decide)]; rfl
    rw [eo]
    refine zs_tableOut (pc := 24) 160 dM_does_24 (by decide) rfl ?_
    refine zs_aload_n (pc := 160) dM_does_160 rfl ?_
    refine zs_iload_n (pc := 161) dM_does_161 rfl ?_
    refine zcV1_1 (pc := 162) (d2 := d - 1) (s_M_passIt hl (by omega) hI hB2 (nI (C (from9 + 1)))) dM_does_162 kM_151 mdM_passIt miM_passIt mvM_passIt rfl (by exact z2_a) rfl (Nat.le_of_ble_eq_true rfl) (by omega) (by omega) (by omega) ?_
    rw [zmth_0]
    refine zs_pop (pc := 165) dM_does_165 rfl ?_
    exact zs_vret (pc := 166) dM_does_166 rfl (by omega) (by omega) (⟨rfl, rfl, rfl⟩)
  | k + 10, hk => exact absurd hk (by omega)
def zCmM (C : Nat → Nat) (A : List zCmd) : Prop := ∀ i, i < A.length → ∀ c, A[i]? = some c → C (3 * i) = c.1 ∧ (c.1 ≠ 6 → C (3 * i + 1) = c.2.1) ∧ ((c.1 = 1 ∨ c.1 = 2 ∨ c.1 = 5 ∨ c.1 = 8) → C (3 * i + 2) = c.2.2)
theorem zCmM.add {C C2 : Nat → Nat} {A : List zCmd} {x : zCmd} (h : zCmM C A) (hC : ∀ i, i < 3 * A.length → C2 i = C i) (h0 : C2 (3 * A.length) = x.1) (h1 : x.1 ≠ 6 → C2 (3 * A.length + 1) = x.2.1) (h2 : (x.1 = 1 ∨ x.1 = 2 ∨ x.1 = 5 ∨ x.1 = 8) → C2 (3 * A.length + 2) = x.2.2) : zCmM C2 (A ++ [x]) := by
  intro i hi c hc
  rw [List.length_append] at hi
  have hi2 : i < A.length + 1 := hi
  by_cases e : i = A.length
  · subst e
    rw [List.getElem?_append_right (Nat.le_refl _), Nat.sub_self] at hc
    have hc2 : x = c := Option.some.inj hc
    subst hc2
    exact ⟨h0, h1, h2⟩
  · rw [List.getElem?_append_left (by omega)] at hc
    obtain ⟨g0, g1, g2⟩ := h i (by omega) c hc
    exact ⟨by rw [hC _ (by omega)]; exact g0, fun q => by rw [hC _ (by omega)]; exact g1 q, fun q => by rw [hC _ (by omega)]; exact g2 q⟩
theorem lpp_M_run {Γ : zG} {l : Launch} (hl : l.stackTraces = false) {d : Nat} (hd : 6 ≤ d) {h : zH} {n a : Nat} {g : Nat → Nat} {s3 s5 s6 s7 s8 s10 s12 : Int32} {T : Nat → Nat} {np : Nat} {FN : List Frame → Array Value → State → State → Prop} (hT : h (a + 5) = some (zAr 0 60 T)) (hL7 : h (a + 7) = some (zAr 1 56 zLt)) (hB8 : h (a + 8) = some (zAr 0 11 zBg)) (hn : np ≤ 60) (hc : ∀ i, i < np → T i < 128) : ∀ f (A : List zCmd), f + A.length = 15 → ∀ (po : Nat) (C : Nat → Nat) (s19 s20 : Int32), po ≤ np → 5 * A.length ≤ po → zCmM C A → (∀ (p : Nat) (C' : Nat → Nat) (s16 s20 : Int32), (zps T np f po A).1 = some p → Z Γ l mM_run d 0 0 FN 92 [some (.ref a), some (.int (nI 0)), none, none] [] (z2 (zu h (a + 9) (zAr 0 183 C')) a (zAr 0 246 (g)) (zMo a s3 s5 s6 s7 s8 s10 s12 s16 (nI p) (nI np) (nI 1) s20)) n 0 0) → (∀ (p : Nat) (C' : Nat → Nat) (s20 : Int32), (zps T np f po A).1 = none → zCmM C' (zps T np f po A).2 → Z Γ l mM_run d 0 0 FN 92 [some (.ref a), some (.int (nI 0)), none, none] [] (z2 (zu h (a + 9) (zAr 0 183 C')) a (zAr 0 246 (g)) (zMo a s3 s5 s6 s7 s8 s10 s12 (nI (zps T np f po A).2.length) (nI p) (nI np) (nI 0) s20)) n 0 0) → Z Γ l mM_run d 0 0 FN 34 [some (.ref a), some (.int (nI 1)), none, none] [] (z2 (zu h (a + 9) (zAr 0 183 C)) a (zAr 0 246 (g)) (zMo a s3 s5 s6 s7 s8 s10 s12 (nI A.length) (nI po) (nI np) s19 s20)) n 0 0 := by
  intro f
  induction f with
  | zero =>
    intro A hA po C s19 s20 hpo h5 hcm Kp Kn
    exact absurd hpo (by omega)
  | succ f ih =>
    intro A hA po C s19 s20 hpo h5 hcm Kp Kn
    obtain ⟨c1, c2, c3⟩ := zpc_ok (T := T) hpo
    have hzp : zps T np (f + 1) po A = if (zpc T np po).1 = true then (if np ≤ (zpc T np po).2.1 then (none, A ++ [(zpc T np po).2.2]) else if T (zpc T np po).2.1 = 59 then zps T np f ((zpc T np po).2.1 + 1) (A ++ [(zpc T np po).2.2]) else (some (zpc T np po).2.1, A ++ [(zpc T np po).2.2])) else (some (zpc T np po).2.1, A) := rfl
    rw [hzp] at Kp Kn
    refine zs_iload_n (pc := 34) dM_run_34 rfl ?_
    refine zn_if_eq (pc := 35) 92 dM_run_35 rfl (by omega) (fun h9 => absurd h9 (by decide)) (fun _ => ?_)
    refine zs_aload_n (pc := 38) dM_run_38 rfl ?_
    refine zcVQ_0 (pc := 39) (d2 := d - 1) (s_M_readCommand (m := A.length) hl (by omega) hT hL7 hB8 hn hc hpo (by omega)) dM_run_39 kM_243 mdM_readCommand miM_readCommand mvM_readCommand rfl (by exact z2_a) rfl (Nat.le_of_ble_eq_true rfl) (by omega) (by omega) (by omega) (fun v h1 n1 hq => ?_) (fun E h1 n1 hq => absurd hq.1 (by intro q; cases q))
    obtain ⟨hv9, rfl, C2, m2, v20, rfl, hm2, hC2, hres⟩ := hq
    obtain rfl := Sum.inl.inj hv9
    generalize zpc T np po = r at c1 c2 c3 hres Kp Kn ⊢
    obtain ⟨r1, r2, r3⟩ := r
    cases r1 with
    | false =>
      rw [if_neg (fun q => by cases q)] at Kp Kn
      have K2 := Kp r2 C2 (nI m2) v20 rfl
      have zf : ywr false = 1 := rfl
      dsimp only
      rw [zf]
      refine zs_aload_n (pc := 42) dM_run_42 rfl ?_
      refine zs_get (pc := 43) dM_run_43 fM_208 (by first | exact z2_a | exact z2_1 | (rw [z2_n (by omega) (by omega)]; exact hC9) | (rw [z2_n (by omega) (by omega), zu_n (by omega)]; exact zu_s)) (by rfl) ?_
      refine zn_if_ne (pc := 46) 64 dM_run_46 rfl (by omega) (fun _ => ?_) (fun h9 => absurd h9 (by decide))
      refine zs_iconst (pc := 64) dM_run_64 zi_0 ?_
      refine zs_istore_n (pc := 65) (ls2 := [_, _, _, _]) dM_run_65 (Nat.le_of_ble_eq_true rfl) rfl ?_
      refine zs_iload_n (pc := 66) dM_run_66 rfl ?_
      refine zn_if_eq (pc := 67) 34 dM_run_67 rfl (by omega) (fun _ => ?_) (fun h9 => absurd h9 (by decide))
      refine zs_iload_n (pc := 34) dM_run_34 rfl ?_
      refine zn_if_eq (pc := 35) 92 dM_run_35 rfl (by omega) (fun _ => ?_) (fun h9 => absurd h9 (by decide))
      exact K2
    | true =>
      obtain ⟨c4, c5⟩ := c3 rfl
      obtain ⟨rfl, d0, d1, d2⟩ := hres rfl
      have hcm2 := hcm.add hC2 d0 d1 d2
      have hl2 : (A ++ [r3]).length = A.length + 1 := by rw [List.length_append]; rfl
      rw [if_pos rfl] at Kp Kn
      have zt : ywr true = 0 := rfl
      dsimp only at c1 c2 c4 Kp Kn ⊢
      rw [zt]
      by_cases e1 : np ≤ r2
      · rw [if_pos e1] at Kp Kn
        have K2 := Kn r2 C2 v20 rfl hcm2
        dsimp only at K2
        rw [hl2] at K2
        refine zs_aload_n (pc := 42) dM_run_42 rfl ?_
        refine zs_get (pc := 43) dM_run_43 fM_208 (by first | exact z2_a | exact z2_1 | (rw [z2_n (by omega) (by omega)]; exact hC9) | (rw [z2_n (by omega) (by omega), zu_n (by omega)]; exact zu_s)) (by rfl) ?_
        refine zn_if_ne (pc := 46) 64 dM_run_46 rfl (by omega) (fun h9 => absurd h9 (by decide)) (fun _ => ?_)
        refine zs_aload_n (pc := 49) dM_run_49 rfl ?_
        refine zs_get (pc := 50) dM_run_50 fM_202 (by first | exact z2_a | exact z2_1 | (rw [z2_n (by omega) (by omega)]; exact hC9) | (rw [z2_n (by omega) (by omega), zu_n (by omega)]; exact zu_s)) (by rfl) ?_
        refine zs_aload_n (pc := 53) dM_run_53 rfl ?_
        refine zs_get (pc := 54) dM_run_54 fM_205 (by first | exact z2_a | exact z2_1 | (rw [z2_n (by omega) (by omega)]; exact hC9) | (rw [z2_n (by omega) (by omega), zu_n (by omega)]; exact zu_s)) (by rfl) ?_
        refine zn_icmp_ge (pc := 57) 64 dM_run_57 rfl (by omega) (by omega) (fun _ => ?_) (fun h9 => absurd h9 (by omega))
        refine zs_iconst (pc := 64) dM_run_64 zi_0 ?_
        refine zs_istore_n (pc := 65) (ls2 := [_, _, _, _]) dM_run_65 (Nat.le_of_ble_eq_true rfl) rfl ?_
        refine zs_iload_n (pc := 66) dM_run_66 rfl ?_
        refine zn_if_eq (pc := 67) 34 dM_run_67 rfl (by omega) (fun _ => ?_) (fun h9 => absurd h9 (by decide))
        refine zs_iload_n (pc := 34) dM_run_34 rfl ?_
        refine zn_if_eq (pc := 35) 92 dM_run_35 rfl (by omega) (fun _ => ?_) (fun h9 => absurd h9 (by decide))
        exact K2
      · rw [if_neg e1] at Kp Kn
        have hT9 : zu h (a + 9) (zAr 0 183 C2) (a + 5) = some (zAr 0 60 T) := by rw [zu_n (by omega)]; exact hT
        by_cases e2 : T r2 = 59
        · rw [if_pos e2] at Kp Kn
          have hz := ih (A ++ [r3]) (by omega) (r2 + 1) C2 (nI 0) v20 (by omega) (by omega) hcm2 Kp Kn
          rw [hl2] at hz
          refine zs_aload_n (pc := 42) dM_run_42 rfl ?_
          refine zs_get (pc := 43) dM_run_43 fM_208 (by first | exact z2_a | exact z2_1 | (rw [z2_n (by omega) (by omega)]; exact hC9) | (rw [z2_n (by omega) (by omega), zu_n (by omega)]; exact zu_s)) (by rfl) ?_
          refine zn_if_ne (pc := 46) 64 dM_run_46 rfl (by omega) (fun h9 => absurd h9 (by decide)) (fun _ => ?_)
          refine zs_aload_n (pc := 49) dM_run_49 rfl ?_
          refine zs_get (pc := 50) dM_run_50 fM_202 (by first | exact z2_a | exact z2_1 | (rw [z2_n (by omega) (by omega)]; exact hC9) | (rw [z2_n (by omega) (by omega), zu_n (by omega)]; exact zu_s)) (by rfl) ?_
          refine zs_aload_n (pc := 53) dM_run_53 rfl ?_
          refine zs_get (pc := 54) dM_run_54 fM_205 (by first | exact z2_a | exact z2_1 | (rw [z2_n (by omega) (by omega)]; exact hC9) | (rw [z2_n (by omega) (by omega), zu_n (by omega)]; exact zu_s)) (by rfl) ?_
          refine zn_icmp_ge (pc := 57) 64 dM_run_57 rfl (by omega) (by omega) (fun h9 => absurd h9 (by omega)) (fun _ => ?_)
          refine zs_iconst (pc := 60) dM_run_60 zi_1 ?_
          refine zs_goto (pc := 61) 65 dM_run_61 rfl ?_
          refine zs_istore_n (pc := 65) (ls2 := [_, _, _, _]) dM_run_65 (Nat.le_of_ble_eq_true rfl) rfl ?_
          refine zs_iload_n (pc := 66) dM_run_66 rfl ?_
          refine zn_if_eq (pc := 67) 34 dM_run_67 rfl (by omega) (fun h9 => absurd h9 (by decide)) (fun _ => ?_)
          refine zs_aload_n (pc := 70) dM_run_70 rfl ?_
          refine zs_bipush (pc := 71) dM_run_71 (zi_b 59 (by decide)) ?_
          refine zcV0_1 (pc := 73) (d2 := d - 1) (s_M_expects_y hl (by omega) hT9 hn hc (by omega) e2) dM_run_73 kM_225 mdM_expects miM_expects mvM_expects rfl (by exact z2_a) rfl (Nat.le_of_ble_eq_true rfl) (by omega) (by omega) (by omega) ?_
          refine zs_aload_n (pc := 76) dM_run_76 rfl ?_
          refine zs_get (pc := 77) dM_run_77 fM_208 (by first | exact z2_a | exact z2_1 | (rw [z2_n (by omega) (by omega)]; exact hC9) | (rw [z2_n (by omega) (by omega), zu_n (by omega)]; exact zu_s)) (by rfl) ?_
          refine zn_if_ne (pc := 80) 87 dM_run_80 rfl (by omega) (fun h9 => absurd h9 (by decide)) (fun _ => ?_)
          refine zs_iconst (pc := 83) dM_run_83 zi_1 ?_
          refine zs_goto (pc := 84) 88 dM_run_84 rfl ?_
          refine zs_istore_n (pc := 88) (ls2 := [_, _, _, _]) dM_run_88 (Nat.le_of_ble_eq_true rfl) rfl ?_
          refine zs_goto (pc := 89) 34 dM_run_89 rfl ?_
          exact hz
        · rw [if_neg e2] at Kp Kn
          have K2 := Kp r2 C2 (nI (A.length + 1)) v20 rfl
          refine zs_aload_n (pc := 42) dM_run_42 rfl ?_
          refine zs_get (pc := 43) dM_run_43 fM_208 (by first | exact z2_a | exact z2_1 | (rw [z2_n (by omega) (by omega)]; exact hC9) | (rw [z2_n (by omega) (by omega), zu_n (by omega)]; exact zu_s)) (by rfl) ?_
          refine zn_if_ne (pc := 46) 64 dM_run_46 rfl (by omega) (fun h9 => absurd h9 (by decide)) (fun _ => ?_)
          refine zs_aload_n (pc := 49) dM_run_49 rfl ?_
          refine zs_get (pc := 50) dM_run_50 fM_202 (by first | exact z2_a | exact z2_1 | (rw [z2_n (by omega) (by omega)]; exact hC9) | (rw [z2_n (by omega) (by omega), zu_n (by omega)]; exact zu_s)) (by rfl) ?_
          refine zs_aload_n (pc := 53) dM_run_53 rfl ?_
          refine zs_get (pc := 54) dM_run_54 fM_205 (by first | exact z2_a | exact z2_1 | (rw [z2_n (by omega) (by omega)]; exact hC9) | (rw [z2_n (by omega) (by omega), zu_n (by omega)]; exact zu_s)) (by rfl) ?_
          refine zn_icmp_ge (pc := 57) 64 dM_run_57 rfl (by omega) (by omega) (fun h9 => absurd h9 (by omega)) (fun _ => ?_)
          refine zs_iconst (pc := 60) dM_run_60 zi_1 ?_
          refine zs_goto (pc := 61) 65 dM_run_61 rfl ?_
          refine zs_istore_n (pc := 65) (ls2 := [_, _, _, _]) dM_run_65 (Nat.le_of_ble_eq_true rfl) rfl ?_
          refine zs_iload_n (pc := 66) dM_run_66 rfl ?_
          refine zn_if_eq (pc := 67) 34 dM_run_67 rfl (by omega) (fun h9 => absurd h9 (by decide)) (fun _ => ?_)
          refine zs_aload_n (pc := 70) dM_run_70 rfl ?_
          refine zs_bipush (pc := 71) dM_run_71 (zi_b 59 (by decide)) ?_
          refine zcV0_1 (pc := 73) (d2 := d - 1) (s_M_expects_n hl (by omega) hT9 hn hc (by omega) (by decide) (fun q => e2 q.2)) dM_run_73 kM_225 mdM_expects miM_expects mvM_expects rfl (by exact z2_a) rfl (Nat.le_of_ble_eq_true rfl) (by omega) (by omega) (by omega) ?_
          refine zs_aload_n (pc := 76) dM_run_76 rfl ?_
          refine zs_get (pc := 77) dM_run_77 fM_208 (by first | exact z2_a | exact z2_1 | (rw [z2_n (by omega) (by omega)]; exact hC9) | (rw [z2_n (by omega) (by omega), zu_n (by omega)]; exact zu_s)) (by rfl) ?_
          refine zn_if_ne (pc := 80) 87 dM_run_80 rfl (by omega) (fun _ => ?_) (fun h9 => absurd h9 (by decide))
          refine zs_iconst (pc := 87) dM_run_87 zi_0 ?_
          refine zs_istore_n (pc := 88) (ls2 := [_, _, _, _]) dM_run_88 (Nat.le_of_ble_eq_true rfl) rfl ?_
          refine zs_goto (pc := 89) 34 dM_run_89 rfl ?_
          refine zs_iload_n (pc := 34) dM_run_34 rfl ?_
          refine zn_if_eq (pc := 35) 92 dM_run_35 rfl (by omega) (fun _ => ?_) (fun h9 => absurd h9 (by decide))
          exact K2
theorem lpr_M_run {Γ : zG} {l : Launch} (hl : l.stackTraces = false) {d : Nat} {h : zH} {n a : Nat} {g : Nat → Nat} {s3 s5 s6 s7 s8 s10 s12 s16 s17 s18 s19 s20 : Int32} {G : Nat → Nat} {i : Nat} {FN : List Frame → Array Value → State → State → Prop} (hA2 : h (a + 2) = some (zAr 0 246 G)) (K : Z Γ l mM_run d 0 0 FN 164 [some (.ref a), some (.int (nI 0)), some (.int (nI i)), some (.int (nI 246))] [] (z2 h a (zAr 0 246 (G)) (zMo a s3 s5 s6 s7 s8 s10 s12 s16 s17 s18 s19 s20)) n 0 0) : ∀ f j, f + j = 246 → Z Γ l mM_run d 0 0 FN 139 [some (.ref a), some (.int (nI 0)), some (.int (nI i)), some (.int (nI j))] [] (z2 h a (zAr 0 246 (fun q => if q < j then G q else g q)) (zMo a s3 s5 s6 s7 s8 s10 s12 s16 s17 s18 s19 s20)) n 0 0 := by
  intro f
  induction f with
  | zero =>
    intro j hj
    obtain rfl : j = 246 := by omega
    refine zs_iload_n (pc := 139) dM_run_139 rfl ?_
    refine zs_sipush (pc := 140) dM_run_140 (zi_s 246 (by decide)) ?_
    refine zn_icmp_ge (pc := 143) 164 dM_run_143 rfl (by omega) (by omega) (fun _ => ?_) (fun h9 => absurd h9 (by omega))
    refine zs_extn (a := a + 1) G z2_1 (fun q hq => if_pos hq) ?_
    rw [z2_G]
    exact K
  | succ f ih =>
    intro j hj
    have hz := ih (j + 1) (by omega)
    have e : zup (fun q => if q < j then G q else g q) j (G j) = (fun q => if q < j + 1 then G q else g q) := by
      funext q
      unfold zup
      show (if q = j then G j else if q < j then G q else g q) = if q < j + 1 then G q else g q
      by_cases e1 : q = j
      · subst e1
        rw [if_pos rfl, if_pos (by omega)]
      · (repeat' split) <;> first | rfl | (exfalso; omega) | (congr 1; omega) | omega
    refine zs_iload_n (pc := 139) dM_run_139 rfl ?_
    refine zs_sipush (pc := 140) dM_run_140 (zi_s 246 (by decide)) ?_
    refine zn_icmp_ge (pc := 143) 164 dM_run_143 rfl (by omega) (by omega) (fun h9 => absurd h9 (by omega)) (fun _ => ?_)
    refine zs_aload_n (pc := 146) dM_run_146 rfl ?_
    refine zs_get (pc := 147) dM_run_147 fM_9 (by first | exact z2_a | exact z2_1 | (rw [z2_n (by omega) (by omega)]; exact hA2)) (by rfl) ?_
    refine zs_iload_n (pc := 150) dM_run_150 rfl ?_
    refine zs_aload_n (pc := 151) dM_run_151 rfl ?_
    refine zs_get (pc := 152) dM_run_152 fM_13 (by first | exact z2_a | exact z2_1 | (rw [z2_n (by omega) (by omega)]; exact hA2)) (by rfl) ?_
    refine zs_iload_n (pc := 155) dM_run_155 rfl ?_
    refine zn_iald (pc := 156) dM_run_156 (by first | exact z2_a | exact z2_1 | (rw [z2_n (by omega) (by omega)]; exact hA2)) (by omega) (by first | decide | assumption) ?_
    refine zn_iast (pc := 157) dM_run_157 (by first | exact z2_a | exact z2_1 | (rw [z2_n (by omega) (by omega)]; exact hA2)) (by omega) (by first | decide | assumption) ?_
    first | rw [z2_G] | rw [z2_q2] | rw [z2_q3] | rw [z2_q4] | rw [z2_q5] | rw [z2_q6] | rw [z2_q9]
    rw [e]
    refine zn_iinc (pc := 158) (ls2 := [_, _, _, _]) dM_run_158 rfl (Nat.le_of_ble_eq_true rfl) rfl ?_
    refine zs_goto (pc := 161) 139 dM_run_161 rfl ?_
    exact hz
/-- what a run leaves -/
def yQr (h : zH) (n a : Nat) (g : Nat → Nat) (s3 s12 : Int32) (P : Nat → Nat → Nat) (c : Nat) (O : (Nat × Int32) × (Nat → Nat) × Option Nat × Option Nat) : zQ := fun o h1 n1 => o = .inl (some (.int O.1.2)) ∧ n1 = n ∧ ∃ (U' C' : Nat → Nat) (s16 s17 s18 s19 s20 : Int32), h1 = (z2 (zu (zu (zu h (a + 2) (zAr 0 246 g)) (a + 9) (zAr 0 183 C')) (a + 4) (zAr 0 1968 U')) a (zAr 0 246 (O.2.1)) (zMo a s3 (nI (zkc O.1.1 c)) (zer O.2.2.1) (zer O.2.2.2) (nI O.1.1) (nI 0) s12 s16 s17 s18 s19 s20)) ∧ zPs U' (zkP O.1.1 P c g) (zkc O.1.1 c)
theorem lpx_M_run {Γ : zG} {l : Launch} (hl : l.stackTraces = false) {d : Nat} (hd : 6 ≤ d) {h : zH} {n a : Nat} {g : Nat → Nat} {s3 s12 s17 s18 s19 s20 : Int32} {U C : Nat → Nat} {P : Nat → Nat → Nat} {c B : Nat} {er fl : Option Nat} {A : List zCmd} (hU : h (a + 4) = some (zAr 0 1968 U)) (hP : zPs U P c) (hc8 : c ≤ 8) (hB2 : B + 320 < 2 ^ 20) (hA : ∀ x, x ∈ A → x.1 < 10) (hlen : A.length ≤ 15) (hcm : zCmM C A) : ∀ R (pre : List zCmd) (g9 : Nat → Nat), A = pre ++ R → IG (B + 20 * pre.length) g9 → ∀ O, (O = match zex R pre.length g9 with | (some i, _) => ((2, -1), g, er, some i) | (none, g2) => ((0, nI A.length), g2, er, fl)) → Z Γ l mM_run d 0 0 (zFin Γ (yQr h n a g s3 s12 P c O) 0 0) 115 [some (.ref a), some (.int (nI 0)), some (.int (nI pre.length)), none] [] (z2 (zu (zu h (a + 2) (zAr 0 246 g)) (a + 9) (zAr 0 183 C)) a (zAr 0 246 (g9)) (zMo a s3 (nI c) (zer er) (zer fl) (nI 0) (nI 0) s12 (nI A.length) s17 s18 s19 s20)) n 0 0 := by
  have hbA : zu (zu h (a + 2) (zAr 0 246 g)) (a + 9) (zAr 0 183 C) (a + 2) = some (zAr 0 246 g) := by rw [zu_n (by omega)]; exact zu_s
  have hbU : zu (zu h (a + 2) (zAr 0 246 g)) (a + 9) (zAr 0 183 C) (a + 4) = some (zAr 0 1968 U) := by rw [zu_n (by omega), zu_n (by omega)]; exact hU
  intro R
  induction R with
  | nil =>
    intro pre g9 hpre hI O hO
    have hlp : A.length = pre.length := by rw [hpre, List.append_nil]
    have hO2 : O = ((0, nI A.length), g9, er, fl) := hO
    subst hO2
    refine zs_iload_n (pc := 115) dM_run_115 rfl ?_
    refine zs_aload_n (pc := 116) dM_run_116 rfl ?_
    refine zs_get (pc := 117) dM_run_117 fM_234 (by first | exact z2_a | exact z2_1) (by rfl) ?_
    refine zn_icmp_ge (pc := 120) 181 dM_run_120 rfl (by omega) (by omega) (fun _ => ?_) (fun h9 => absurd h9 (by omega))
    refine zs_aload_n (pc := 181) dM_run_181 rfl ?_
    refine zs_aload_n (pc := 182) dM_run_182 rfl ?_
    refine zs_get (pc := 183) dM_run_183 fM_234 (by first | exact z2_a | exact z2_1) (by rfl) ?_
    refine zcVQ_1 (pc := 186) (d2 := d - 1) (s_M_changed (G := g) hl hbA hbU hP hc8 (e := 0) (by decide)) dM_run_186 kM_99 mdM_changed miM_changed mvM_changed rfl (by exact z2_a) rfl (Nat.le_of_ble_eq_true rfl) (by omega) (by omega) (by omega) (fun v h1 n1 hq => ?_) (fun E h1 n1 hq => absurd hq.1 (by intro q; cases q))
    obtain ⟨hv9, rfl, U2, rfl, hP2⟩ := hq
    obtain rfl := Sum.inl.inj hv9
    exact zs_iret (pc := 189) dM_run_189 rfl rfl (by omega) (by omega) (⟨rfl, rfl, U2, C, _, _, _, _, _, rfl, hP2⟩)
  | cons y R ih =>
    intro pre g9 hpre hI O hO
    have hlp : A.length = pre.length + (R.length + 1) := by rw [hpre, List.length_append]; rfl
    have hgy : A[pre.length]? = some y := by
      rw [hpre, List.getElem?_append_right (Nat.le_refl _), Nat.sub_self]
      rfl
    obtain ⟨d0, d1, d2⟩ := hcm pre.length (by omega) y hgy
    have hy3 := hA y (by rw [hpre]; exact List.mem_append_right _ List.mem_cons_self)
    have hI2 := hI.do (Nat.le_of_lt_succ hy3) (nI y.2.1) (nI y.2.2)
    have hlim := (zdo_lim (g := g9) (Nat.le_of_lt_succ hy3) (nI y.2.1) (nI y.2.2)).1
    have h4 := zEs_4 y.1 hy3
    have hz : zex (y :: R) pre.length g9 = if (zdo g9 y.1 (nI y.2.1) (nI y.2.2)).1 = 0 then zex R (pre.length + 1) (zdo g9 y.1 (nI y.2.1) (nI y.2.2)).2.2 else (some pre.length, g9) := rfl
    rw [hz] at hO
    refine zs_iload_n (pc := 115) dM_run_115 rfl ?_
    refine zs_aload_n (pc := 116) dM_run_116 rfl ?_
    refine zs_get (pc := 117) dM_run_117 fM_234 (by first | exact z2_a | exact z2_1) (by rfl) ?_
    refine zn_icmp_ge (pc := 120) 181 dM_run_120 rfl (by omega) (by omega) (fun h9 => absurd h9 (by omega)) (fun _ => ?_)
    refine zs_aload_n (pc := 123) dM_run_123 rfl ?_
    refine zs_iconst (pc := 124) dM_run_124 zi_3 ?_
    refine zs_iload_n (pc := 125) dM_run_125 rfl ?_
    refine zn_imul (pc := 126) dM_run_126 ?_
    refine zcV0_1 (pc := 127) (d2 := d - 1) (s_M_does hl (by omega) (C := C) zu_s hI (by omega) (by omega) hy3 d0 d1 d2) dM_run_127 kM_246 mdM_does miM_does mvM_does rfl (by exact z2_a) rfl (Nat.le_of_ble_eq_true rfl) (by omega) (by omega) (by omega) ?_
    generalize zdo g9 y.1 (nI y.2.1) (nI y.2.2) = op at hI2 hlim hO ⊢
    by_cases e : op.1 = 0
    · rw [if_pos e] at hO
      rw [e]
      have h7 := ih (pre ++ [y]) op.2.2 (by rw [hpre, List.append_assoc]; rfl) (by rw [List.length_append]; exact hI2) O (by rw [List.length_append]; exact hO)
      rw [List.length_append] at h7
      refine zs_aload_n (pc := 130) dM_run_130 rfl ?_
      refine zs_get (pc := 131) dM_run_131 fM_45 (by first | exact z2_a | exact z2_1) (by rfl) ?_
      refine zn_if_le (pc := 134) 175 dM_run_134 rfl (by omega) (fun _ => ?_) (fun h9 => absurd h9 (by decide))
      refine zn_iinc (pc := 175) (ls2 := [_, _, _, _]) dM_run_175 rfl (Nat.le_of_ble_eq_true rfl) rfl ?_
      refine zs_goto (pc := 178) 115 dM_run_178 rfl ?_
      exact h7
    · rw [if_neg e] at hO
      have hO2 : O = ((2, -1), g, er, some pre.length) := hO
      subst hO2
      have K : Z Γ l mM_run d 0 0 (zFin Γ (yQr h n a g s3 s12 P c ((2, -1), g, er, some pre.length)) 0 0) 164 [some (.ref a), some (.int (nI 0)), some (.int (nI pre.length)), some (.int (nI 246))] [] (z2 (zu (zu h (a + 2) (zAr 0 246 g)) (a + 9) (zAr 0 183 C)) a (zAr 0 246 (g)) (zMo a s3 (nI c) (zer er) (zer fl) (nI op.1) (nI 0) s12 (nI A.length) s17 s18 s19 s20)) n 0 0 := by
        refine zs_aload_n (pc := 164) dM_run_164 rfl ?_
        refine zs_iload_n (pc := 165) dM_run_165 rfl ?_
        refine zs_put (pc := 166) (fs2 := [_, _, _, _, _, _, _, _, _, _, _, _, _, _, _, _, _, _, _, _, _]) dM_run_166 fM_26 (by first | exact z2_a | exact z2_1) (by rfl) (by rfl) (by exact Nat.le_of_ble_eq_true rfl) (by rfl) ?_
        rw [z2_O]
        refine zs_aload_n (pc := 169) dM_run_169 rfl ?_
        refine zs_iconst (pc := 170) dM_run_170 zi_2 ?_
        refine zcV1_1 (pc := 171) (d2 := d - 1) (s_M_throwing hl) dM_run_171 kM_90 mdM_throwing miM_throwing mvM_throwing rfl (by exact z2_a) rfl (Nat.le_of_ble_eq_true rfl) (by omega) (by omega) (by omega) ?_
        have eU : zu (zu (zu h (a + 2) (zAr 0 246 g)) (a + 9) (zAr 0 183 C)) (a + 4) (zAr 0 1968 U) = zu (zu h (a + 2) (zAr 0 246 g)) (a + 9) (zAr 0 183 C) := zu_id hbU
        exact zs_iret (pc := 174) dM_run_174 rfl rfl (by omega) (by omega) (⟨rfl, rfl, U, C, _, _, _, _, _, by rw [eU]; rfl, hP⟩)
      have h8 := lpr_M_run (Γ := Γ) (l := l) (g := op.2.2) hl (d := d) hbA K 246 0 rfl
      have e0 : (fun q => if q < 0 then g q else op.2.2 q) = op.2.2 := by
        funext q
        exact if_neg (by omega)
      rw [e0] at h8
      refine zs_aload_n (pc := 130) dM_run_130 rfl ?_
      refine zs_get (pc := 131) dM_run_131 fM_45 (by first | exact z2_a | exact z2_1) (by rfl) ?_
      refine zn_if_le (pc := 134) 175 dM_run_134 rfl (by omega) (fun h9 => absurd h9 (by omega)) (fun _ => ?_)
      refine zs_iconst (pc := 137) dM_run_137 zi_0 ?_
      refine zs_istore_n (pc := 138) (ls2 := [_, _, _, _]) dM_run_138 (Nat.le_of_ble_eq_true rfl) rfl ?_
      exact h8
theorem s_M_run {Γ : zG} {l : Launch} (hl : l.stackTraces = false) {d : Nat} (hd : 7 ≤ d) {h : zH} {n a : Nat} {g : Nat → Nat} {s3 s8 s12 s16 s17 s18 s19 s20 : Int32} {U A0 C0 T : Nat → Nat} {P : Nat → Nat → Nat} {c B np : Nat} {er fl : Option Nat} (hA : h (a + 2) = some (zAr 0 246 A0)) (hU : h (a + 4) = some (zAr 0 1968 U)) (hC0 : h (a + 9) = some (zAr 0 183 C0)) (hT : h (a + 5) = some (zAr 0 60 T)) (hL7 : h (a + 7) = some (zAr 1 56 zLt)) (hB8 : h (a + 8) = some (zAr 0 11 zBg)) (hn : np ≤ 60) (hc : ∀ i, i < np → T i < 128) (hP : zPs U P c) (hc8 : c ≤ 8) (hI : IG B g) (hB2 : B + 320 < 2 ^ 20) : zC Γ l d mM_run [.ref a] (z2 h a (zAr 0 246 (g)) (zMo a s3 (nI c) (zer er) (zer fl) s8 (nI np) s12 s16 s17 s18 s19 s20)) n 0 0 (yQr h n a g s3 s12 P c (zrunO g T np er fl)) := by
  obtain ⟨r1, r2, r3⟩ := zps_ok (T := T) (n := np) 15 0 [] (Nat.zero_le _) (fun x hx => by cases hx)
  have hbT : zu h (a + 2) (zAr 0 246 g) (a + 5) = some (zAr 0 60 T) := by rw [zu_n (by omega)]; exact hT
  have hbL : zu h (a + 2) (zAr 0 246 g) (a + 7) = some (zAr 1 56 zLt) := by rw [zu_n (by omega)]; exact hL7
  have hbB : zu h (a + 2) (zAr 0 246 g) (a + 8) = some (zAr 0 11 zBg) := by rw [zu_n (by omega)]; exact hB8
  have hbC : zu h (a + 2) (zAr 0 246 g) (a + 9) = some (zAr 0 183 C0) := by rw [zu_n (by omega)]; exact hC0
  have hbU : ∀ C', zu (zu h (a + 2) (zAr 0 246 g)) (a + 9) (zAr 0 183 C') (a + 4) = some (zAr 0 1968 U) := fun C' => by rw [zu_n (by omega), zu_n (by omega)]; exact hU
  refine zC_of (ls := [some (.ref a), none, none, none]) hl (by decide +kernel) rfl (Nat.le_of_ble_eq_true rfl) rfl ?_
  refine zs_aload_n (pc := 0) dM_run_0 rfl ?_
  refine zcV0_0 (pc := 1) (d2 := d - 1) (s_M_starts hl hA) dM_run_1 kM_93 mdM_starts miM_starts mvM_starts rfl (by exact z2_a) rfl (Nat.le_of_ble_eq_true rfl) (by omega) (by omega) (by omega) ?_
  refine zs_aload_n (pc := 4) dM_run_4 rfl ?_
  refine zs_aload_n (pc := 5) dM_run_5 rfl ?_
  refine zs_get (pc := 6) dM_run_6 fM_199 (by first | exact z2_a | exact z2_1) (by rfl) ?_
  refine zs_put (pc := 9) (fs2 := [_, _, _, _, _, _, _, _, _, _, _, _, _, _, _, _, _, _, _, _, _]) dM_run_9 fM_205 (by first | exact z2_a | exact z2_1) (by rfl) (by rfl) (by exact Nat.le_of_ble_eq_true rfl) (by rfl) ?_
  rw [z2_O]
  refine zs_aload_n (pc := 12) dM_run_12 rfl ?_
  refine zs_iconst (pc := 13) dM_run_13 zi_0 ?_
  refine zs_put (pc := 14) (fs2 := [_, _, _, _, _, _, _, _, _, _, _, _, _, _, _, _, _, _, _, _, _]) dM_run_14 fM_199 (by first | exact z2_a | exact z2_1) (by rfl) (by rfl) (by exact Nat.le_of_ble_eq_true rfl) (by rfl) ?_
  rw [z2_O]
  refine zs_aload_n (pc := 17) dM_run_17 rfl ?_
  refine zs_iconst (pc := 18) dM_run_18 zi_0 ?_
  refine zs_put (pc := 19) (fs2 := [_, _, _, _, _, _, _, _, _, _, _, _, _, _, _, _, _, _, _, _, _]) dM_run_19 fM_202 (by first | exact z2_a | exact z2_1) (by rfl) (by rfl) (by exact Nat.le_of_ble_eq_true rfl) (by rfl) ?_
  rw [z2_O]
  refine zs_aload_n (pc := 22) dM_run_22 rfl ?_
  refine zs_iconst (pc := 23) dM_run_23 zi_0 ?_
  refine zs_put (pc := 24) (fs2 := [_, _, _, _, _, _, _, _, _, _, _, _, _, _, _, _, _, _, _, _, _]) dM_run_24 fM_234 (by first | exact z2_a | exact z2_1) (by rfl) (by rfl) (by exact Nat.le_of_ble_eq_true rfl) (by rfl) ?_
  rw [z2_O]
  refine zs_aload_n (pc := 27) dM_run_27 rfl ?_
  refine zs_iconst (pc := 28) dM_run_28 zi_0 ?_
  refine zs_put (pc := 29) (fs2 := [_, _, _, _, _, _, _, _, _, _, _, _, _, _, _, _, _, _, _, _, _]) dM_run_29 fM_208 (by first | exact z2_a | exact z2_1) (by rfl) (by rfl) (by exact Nat.le_of_ble_eq_true rfl) (by rfl) ?_
  rw [z2_O]
  refine zs_iconst (pc := 32) dM_run_32 zi_1 ?_
  refine zs_istore_n (pc := 33) (ls2 := [_, _, _, _]) dM_run_33 (Nat.le_of_ble_eq_true rfl) rfl ?_
  have ez : zu (zu h (a + 2) (zAr 0 246 g)) (a + 9) (zAr 0 183 C0) = zu h (a + 2) (zAr 0 246 g) := zu_id hbC
  rw [← ez]
  refine lpp_M_run (A := []) hl (by omega) hbT hbL hbB hn hc 15 rfl 0 C0 (nI 0) s20 (Nat.zero_le _) (Nat.zero_le _) (fun i hi => absurd hi (by show ¬ i < 0; omega)) (fun p C' s16 s20 hp => ?_) (fun p C' s20 hp hcm => ?_)
  · have hzr := zrunO_p (g := g) (er := er) (fl := fl) (A := (zps T np 15 0 []).2) (by rw [← hp])
    rw [hzr]
    refine zs_aload_n (pc := 92) dM_run_92 rfl ?_
    refine zs_get (pc := 93) dM_run_93 fM_208 (by first | exact z2_a | exact z2_1) (by rfl) ?_
    refine zn_if_eq (pc := 96) 113 dM_run_96 rfl (by omega) (fun h9 => absurd h9 (by decide)) (fun _ => ?_)
    refine zs_aload_n (pc := 99) dM_run_99 rfl ?_
    refine zs_aload_n (pc := 100) dM_run_100 rfl ?_
    refine zs_get (pc := 101) dM_run_101 fM_202 (by first | exact z2_a | exact z2_1) (by rfl) ?_
    refine zs_put (pc := 104) (fs2 := [_, _, _, _, _, _, _, _, _, _, _, _, _, _, _, _, _, _, _, _, _]) dM_run_104 fM_22 (by first | exact z2_a | exact z2_1) (by rfl) (by rfl) (by exact Nat.le_of_ble_eq_true rfl) (by rfl) ?_
    rw [z2_O]
    refine zs_aload_n (pc := 107) dM_run_107 rfl ?_
    refine zs_iconst (pc := 108) dM_run_108 zi_1 ?_
    refine zcV1_1 (pc := 109) (d2 := d - 1) (s_M_throwing hl) dM_run_109 kM_90 mdM_throwing miM_throwing mvM_throwing rfl (by exact z2_a) rfl (Nat.le_of_ble_eq_true rfl) (by omega) (by omega) (by omega) ?_
    exact zs_iret (pc := 112) dM_run_112 rfl rfl (by omega) (by omega) (⟨rfl, rfl, U, C', _, _, _, _, _, by rw [zu_id (hbU C')]; rfl, hP⟩)
  · have hz2 := lpx_M_run (Γ := Γ) (l := l) (h := h) (n := n) (a := a) (g := g) (s3 := s3) (s12 := s12) (s17 := nI p) (s18 := nI np) (s19 := nI 0) (s20 := s20) (er := er) (fl := fl) hl (d := d) (by omega) hU hP hc8 hB2 r2 r3 hcm (zps T np 15 0 []).2 [] g rfl hI (zrunO g T np er fl) (by
      have e : zps T np 15 0 [] = (none, (zps T np 15 0 []).2) := by rw [← hp]
      unfold zrunO
      rw [e]
      rfl)
    refine zs_aload_n (pc := 92) dM_run_92 rfl ?_
    refine zs_get (pc := 93) dM_run_93 fM_208 (by first | exact z2_a | exact z2_1) (by rfl) ?_
    refine zn_if_eq (pc := 96) 113 dM_run_96 rfl (by omega) (fun _ => ?_) (fun h9 => absurd h9 (by decide))
    refine zs_iconst (pc := 113) dM_run_113 zi_0 ?_
    refine zs_istore_n (pc := 114) (ls2 := [_, _, _, _]) dM_run_114 (Nat.le_of_ble_eq_true rfl) rfl ?_
    exact hz2

