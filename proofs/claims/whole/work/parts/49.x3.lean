/-! the pieces of the object stand where nothing was written -/
theorem CH.sm {h h1 : zH} {r : Nat} {p : Nat → Nat} {Q : Nat → Nat → Nat} {F : Nat → Nat} (hC : CH h r p Q F) (hk : ∀ q, r ≤ q → q < r + 42 → h1 q = h q) : CH h1 r p Q F := by
  obtain ⟨h0, g1, h2⟩ := hC
  exact ⟨by rw [hk _ (by omega) (by omega)]; exact h0, by rw [hk _ (by omega) (by omega)]; exact g1, fun s hs => ⟨by rw [hk _ (by omega) (by omega)]; exact (h2 s hs).1, by rw [hk _ (by omega) (by omega)]; exact (h2 s hs).2⟩⟩
theorem CR.sm {h h1 : zH} {r : Nat} {g : Nat → Nat} (hC : CR h r g) (hk : ∀ q, r ≤ q → q < r + 42 → h1 q = h q) : CR h1 r g := by
  obtain ⟨p, Q, h1, h2, h3⟩ := hC
  exact ⟨p, Q, h1.sm hk, h2, h3⟩
theorem HR.sm {B : Nat} {h h1 : zH} {a c : Nat} {P : Nat → Nat → Nat} (hH : HR B h a P c) (hk : ∀ q, a ≤ q → q < a + 380 → h1 q = h q) : HR B h1 a P c := by
  obtain ⟨M, m, G, h1, h2, h3, h4, h5, h6, h7⟩ := hH
  exact ⟨M, m, G, h1, h2, by rw [hk _ (by omega) (by omega)]; exact h3, by rw [hk _ (by omega) (by omega)]; exact h4, fun j hj => ⟨(h5 j hj).1.sm (fun q q1 q2 => hk q (by omega) (by omega)), (h5 j hj).2⟩, h6, h7⟩
theorem TH.sm {h h1 : zH} {t : Nat} {E C : Nat → Nat} (hT : TH h t E C) (hk : ∀ q, t ≤ q → q < t + 3 → h1 q = h q) : TH h1 t E C := by
  obtain ⟨g1, g2, g3⟩ := hT
  exact ⟨by rw [hk _ (by omega) (by omega)]; exact g1, by rw [hk _ (by omega) (by omega)]; exact g2, by rw [hk _ (by omega) (by omega)]; exact g3⟩
theorem RH.sm {h h1 : zH} {a s : Nat} {u : Nat → Nat} {f : Nat → Int32} (hT : RH h a u f s) (hk : ∀ q, a ≤ q → q < a + 3 → h1 q = h q) : RH h1 a u f s := by
  obtain ⟨g1, g2, g3⟩ := hT
  exact ⟨by rw [hk _ (by omega) (by omega)]; exact g1, by rw [hk _ (by omega) (by omega)]; exact g2, by rw [hk _ (by omega) (by omega)]; exact g3⟩
theorem PH.sm {h h1 : zH} {a n po v c m : Nat} {T K F S : Nat → Nat} (hT : PH h a T n po v c m K F S) (hk : ∀ q, a ≤ q → q < a + 5 → h1 q = h q) : PH h1 a T n po v c m K F S := by
  obtain ⟨g1, g2, g3, g4, g5⟩ := hT
  exact ⟨by rw [hk _ (by omega) (by omega)]; exact g1, by rw [hk _ (by omega) (by omega)]; exact g2, by rw [hk _ (by omega) (by omega)]; exact g3, by rw [hk _ (by omega) (by omega)]; exact g4, by rw [hk _ (by omega) (by omega)]; exact g5⟩
theorem LH.sm {h h1 : zH} {a : Nat} {L : List Nat} (hT : LH h a L) (hk : ∀ q, a ≤ q → q < a + 3 → h1 q = h q) : LH h1 a L := by
  obtain ⟨u, w, g1, g2, g3, g4⟩ := hT
  exact ⟨u, w, by rw [hk _ (by omega) (by omega)]; exact g1, by rw [hk _ (by omega) (by omega)]; exact g2, by rw [hk _ (by omega) (by omega)]; exact g3, g4⟩
theorem zXsv.sm {h h1 : zH} {x B : Nat} {sv : Option (Nat → Nat)} (hs : zXsv h x B sv) (hk : ∀ q, x + 43 ≤ q → q < x + 85 → h1 q = h q) : zXsv h1 x B sv := by
  obtain ⟨s, h1, h2, h3⟩ := hs
  exact ⟨s, h1.sm (fun q q1 q2 => hk q (by omega) (by omega)), h2, h3⟩
theorem zXsv.mono {h : zH} {x B B2 : Nat} {sv : Option (Nat → Nat)} (hs : zXsv h x B sv) (hB : B ≤ B2) : zXsv h x B2 sv := by
  obtain ⟨s, h1, h2, h3⟩ := hs
  exact ⟨s, h1, h2.mono hB, h3⟩
theorem zXtr.sm {h h1 : zH} {x st : Nat} {g : Nat → Nat} (hs : zXtr h x st g) (hk : ∀ q, x + 465 ≤ q → q < x + 468 → h1 q = h q) : zXtr h1 x st g := by
  obtain ⟨E, C, h1, h2⟩ := hs
  exact ⟨E, C, h1.sm (fun q q1 q2 => hk q (by omega) (by omega)), h2⟩
theorem zXtr.old {h : zH} {x st : Nat} {g g2 : Nat → Nat} (hs : zXtr h x st g) : zXtr h x 1 g2 := by
  obtain ⟨E, C, h1, h2⟩ := hs
  exact ⟨E, C, h1, fun q => by cases q⟩
theorem zXrk.sm {h h1 : zH} {x : Nat} (hs : zXrk h x) (hk : ∀ q, x + 468 ≤ q → q < x + 471 → h1 q = h q) : zXrk h1 x := by
  obtain ⟨u, f, s, h1⟩ := hs
  exact ⟨u, f, s, h1.sm (fun q q1 q2 => hk q (by omega) (by omega))⟩
theorem zXpg.sm {h h1 : zH} {x n : Nat} {T : Nat → Nat} (hs : zXpg h x T n) (hk : ∀ q, x + 471 ≤ q → q < x + 476 → h1 q = h q) : zXpg h1 x T n := by
  obtain ⟨po, v, c, m, K, F, S, h1⟩ := hs
  exact ⟨po, v, c, m, K, F, S, h1.sm (fun q q1 q2 => hk q (by omega) (by omega))⟩
theorem zXag.sm {h h1 : zH} {x : Nat} (hs : zXag h x) (hk : ∀ q, x + 479 ≤ q → q < x + 481 → h1 q = h q) : zXag h1 x := by
  obtain ⟨q, g1, g2⟩ := hs
  exact ⟨q, by rw [hk _ (by omega) (by omega)]; exact g1, by rw [hk _ (by omega) (by omega)]; exact g2⟩
/-! what a command says where it is refused -/
def zEs (k : Nat) : List String := ([["", sIA, sIS], ["", sNS, sIA, sIS], ["", sNS, sIA, sIS], ["", sNS], ["", sNS], ["", sNS, sIA, sIS], ["", sIS], ["", sIB, sIS], ["", sIA], ["", sIA]] : List (List String)).getD k []
def zexn (v : Int32) : String := if v = -1 then sNS else if v = -2 then sIA else if v = -4 then sIB else sIS
theorem zneg_ok : ∀ k, k < 10 → ∀ e, e < (zEs k).length → e ≠ 0 → (zneg k e = -1 ∨ zneg k e = -2 ∨ zneg k e = -3 ∨ zneg k e = -4) ∧ (zEs k).getD e "" = zexn (zneg k e) := by decide +kernel
theorem zdo_lim {g : Nat → Nat} {k : Nat} (hk : k ≤ 9) (x y : Int32) : (zdo g k x y).1 < (zEs k).length ∧ ((zdo g k x y).1 ≠ 0 → (zdo g k x y).2.2 = g) := by
  match k, hk with
  | 0, _ =>
    show (zopAdd g x).1 < 3 ∧ ((zopAdd g x).1 ≠ 0 → (zopAdd g x).2.2 = g)
    unfold zopAdd
    (repeat' split) <;> exact ⟨Nat.le_of_ble_eq_true rfl, fun h => by first | rfl | exact absurd rfl h⟩
  | 1, _ =>
    show (zopCode g x y).1 < 4 ∧ ((zopCode g x y).1 ≠ 0 → (zopCode g x y).2.2 = g)
    unfold zopCode
    (repeat' split) <;> exact ⟨Nat.le_of_ble_eq_true rfl, fun h => by first | rfl | exact absurd rfl h⟩
  | 2, _ =>
    show (zopUncode g x y).1 < 4 ∧ ((zopUncode g x y).1 ≠ 0 → (zopUncode g x y).2.2 = g)
    unfold zopUncode
    (repeat' split) <;> exact ⟨Nat.le_of_ble_eq_true rfl, fun h => by first | rfl | exact absurd rfl h⟩
  | 3, _ =>
    show (zopDrop g x).1 < 2 ∧ ((zopDrop g x).1 ≠ 0 → (zopDrop g x).2.2 = g)
    unfold zopDrop
    (repeat' split) <;> exact ⟨Nat.le_of_ble_eq_true rfl, fun h => by first | rfl | exact absurd rfl h⟩
  | 4, _ =>
    show (zopTouch g x).1 < 2 ∧ ((zopTouch g x).1 ≠ 0 → (zopTouch g x).2.2 = g)
    unfold zopTouch
    (repeat' split) <;> exact ⟨Nat.le_of_ble_eq_true rfl, fun h => by first | rfl | exact absurd rfl h⟩
  | 5, _ =>
    show (zopMerge g x y).1 < 4 ∧ ((zopMerge g x y).1 ≠ 0 → (zopMerge g x y).2.2 = g)
    unfold zopMerge
    (repeat' split) <;> exact ⟨Nat.le_of_ble_eq_true rfl, fun h => by first | rfl | exact absurd rfl h⟩
  | 6, _ =>
    show (zopSeg g).1 < 2 ∧ ((zopSeg g).1 ≠ 0 → (zopSeg g).2.2 = g)
    unfold zopSeg
    (repeat' split) <;> exact ⟨Nat.le_of_ble_eq_true rfl, fun h => by first | rfl | exact absurd rfl h⟩
  | 7, _ =>
    show (zopJoin g x).1 < 3 ∧ ((zopJoin g x).1 ≠ 0 → (zopJoin g x).2.2 = g)
    unfold zopJoin
    (repeat' split) <;> exact ⟨Nat.le_of_ble_eq_true rfl, fun h => by first | rfl | exact absurd rfl h⟩
  | 8, _ =>
    show (zopFind g x y).1 < 2 ∧ ((zopFind g x y).1 ≠ 0 → (zopFind g x y).2.2 = g)
    unfold zopFind
    (repeat' split) <;> exact ⟨Nat.le_of_ble_eq_true rfl, fun h => by first | rfl | exact absurd rfl h⟩
  | 9, _ =>
    show (zopPass g x).1 < 2 ∧ ((zopPass g x).1 ≠ 0 → (zopPass g x).2.2 = g)
    unfold zopPass
    (repeat' split) <;> exact ⟨Nat.le_of_ble_eq_true rfl, fun h => by first | rfl | exact absurd rfl h⟩
  | k + 10, hk => exact absurd hk (by omega)
theorem zdo_ans {B : Nat} {g : Nat → Nat} (hI : IG B g) (hB : B < 2 ^ 20) {k : Nat} (hk : k ≤ 9) (x y : Int32) : (zdo g k x y).2.1 < 2 ^ 31 := by
  have i0 := hI.1
  have i1 := hI.2.1
  have i3 := hI.2.2.2.1
  match k, hk with
  | 0, _ =>
    show (zopAdd g x).2.1 < 2 ^ 31
    unfold zopAdd
    (repeat' split) <;> first | exact Nat.le_of_ble_eq_true rfl | (show g 1 < 2 ^ 31; omega)
  | 1, _ =>
    show (zopCode g x y).2.1 < 2 ^ 31
    unfold zopCode
    by_cases hH : zHas g x = true
    · rw [if_pos hH]
      have h6 := hI.s6 _ (zHas_y hH).1
      (repeat' split) <;> first | exact Nat.le_of_ble_eq_true rfl | (show eg g (zAt g x) 5 + 1 < 2 ^ 31; omega)
    · rw [if_neg hH]
      exact Nat.le_of_ble_eq_true rfl
  | 2, _ =>
    show (zopUncode g x y).2.1 < 2 ^ 31
    unfold zopUncode
    by_cases hH : zHas g x = true
    · rw [if_pos hH]
      have h6 := hI.s6 _ (zHas_y hH).1
      (repeat' split) <;> first | exact Nat.le_of_ble_eq_true rfl | (show eg g (zAt g x) 5 - 1 < 2 ^ 31; omega)
    · rw [if_neg hH]
      exact Nat.le_of_ble_eq_true rfl
  | 3, _ =>
    show (zopDrop g x).2.1 < 2 ^ 31
    unfold zopDrop
    (repeat' split) <;> first | exact Nat.le_of_ble_eq_true rfl | (show g 0 - 1 < 2 ^ 31; omega)
  | 4, _ =>
    show (zopTouch g x).2.1 < 2 ^ 31
    unfold zopTouch
    split
    · rename_i hH
      have h6 := (hI.b hB (zHas_y hH).1).2.2.1
      show eg g (zAt g x) 2 < 2 ^ 31
      omega
    · exact Nat.le_of_ble_eq_true rfl
  | 5, _ =>
    show (zopMerge g x y).2.1 < 2 ^ 31
    unfold zopMerge
    split
    · rename_i hH
      have h6 := hI.s6 _ (zHas_y hH.1).1
      have h7 := hI.s6 _ (zHas_y hH.2).1
      (repeat' split) <;> first | exact Nat.le_of_ble_eq_true rfl | skip
      have hsz : zabs (eg g (zAt g y)) (eg g (zAt g x)) (eg g (zAt g x) 5) 5 + zshare (eg g (zAt g x)) (eg g (zAt g y)) ≤ eg g (zAt g y) 5 + eg g (zAt g x) 5 := zabs_sz (eg g (zAt g x) 5)
      show zabs (eg g (zAt g y)) (eg g (zAt g x)) (eg g (zAt g x) 5) 5 < 2 ^ 31
      omega
    · exact Nat.le_of_ble_eq_true rfl
  | 6, _ =>
    show (zopSeg g).2.1 < 2 ^ 31
    unfold zopSeg
    (repeat' split) <;> first | exact Nat.le_of_ble_eq_true rfl | (show g 2 < 2 ^ 31; omega)
  | 7, _ =>
    show (zopJoin g x).2.1 < 2 ^ 31
    unfold zopJoin
    (repeat' split) <;> first | exact Nat.le_of_ble_eq_true rfl | (show g 2 - 1 < 2 ^ 31; omega)
  | 8, _ =>
    show (zopFind g x y).2.1 < 2 ^ 31
    unfold zopFind
    split
    · have h6 := zres_le (g := g) (dn := x.toInt.toNat) (v := y.toInt.toNat)
      show zres g x.toInt.toNat y.toInt.toNat < 2 ^ 31
      omega
    · exact Nat.le_of_ble_eq_true rfl
  | 9, _ =>
    show (zopPass g x).2.1 < 2 ^ 31
    unfold zopPass
    split
    · have h6 := hI.days x.toInt.toNat
      have h7 := h6.2.1
      have h8 := h6.2.2.2.2.1
      show zdays g x.toInt.toNat 5 - g 5 < 2 ^ 31
      omega
    · exact Nat.le_of_ble_eq_true rfl
  | k + 10, hk => exact absurd hk (by omega)
theorem nI_nn {a : Nat} (h : a < 2 ^ 31) : 0 ≤ nI a := Int32.not_lt.mp (nI_pos h)
def zkP (e : Nat) (P : Nat → Nat → Nat) (c : Nat) (g : Nat → Nat) : Nat → Nat → Nat := if e = 0 then zkeep P c g else P
def zkc (e c : Nat) : Nat := if e = 0 then min 8 (c + 1) else c
theorem s_X_throwFor {Γ : zG} {l : Launch} (hl : l.stackTraces = false) {d : Nat} {h : zH} {n : Nat} {v : Int32} (hv : v = -1 ∨ v = -2 ∨ v = -3 ∨ v = -4) : zC Γ l d mX_throwFor [.int v] h n 1 6 (zTw (zexn v) h n) := by
  rcases hv with rfl | rfl | rfl | rfl
  · refine zC_of (ls := [some (.int (-1))]) hl (by decide +kernel) rfl (Nat.le_of_ble_eq_true rfl) rfl ?_
    refine zs_iload_n (pc := 0) dX_throwFor_0 rfl ?_
    refine zs_tableIn (pc := 1) (off := 31) 32 dX_throwFor_1 (by decide) (by decide) (by decide) rfl ?_
    exact zs_throwN (pc := 32) (text := "no such entry") thNS (by decide) rfl dX_throwFor_32 dX_throwFor_35 dX_throwFor_36 dX_throwFor_38 dX_throwFor_41 (Nat.le_of_ble_eq_true rfl) (by omega) (by omega) (fun n2 hn2 => ⟨rfl, rfl, by omega⟩)
  · refine zC_of (ls := [some (.int (-2))]) hl (by decide +kernel) rfl (Nat.le_of_ble_eq_true rfl) rfl ?_
    refine zs_iload_n (pc := 0) dX_throwFor_0 rfl ?_
    refine zs_tableIn (pc := 1) (off := 41) 42 dX_throwFor_1 (by decide) (by decide) (by decide) rfl ?_
    exact zs_throw (pc := 42) (text := "an argument is out of range") thIA (by decide) rfl dX_throwFor_42 dX_throwFor_45 dX_throwFor_46 dX_throwFor_48 dX_throwFor_51 (Nat.le_of_ble_eq_true rfl) (by omega) (by omega) (fun n2 hn2 => ⟨rfl, rfl, by omega⟩)
  · refine zC_of (ls := [some (.int (-3))]) hl (by decide +kernel) rfl (Nat.le_of_ble_eq_true rfl) rfl ?_
    refine zs_iload_n (pc := 0) dX_throwFor_0 rfl ?_
    refine zs_tableIn (pc := 1) (off := 61) 62 dX_throwFor_1 (by decide) (by decide) (by decide) rfl ?_
    exact zs_throw (pc := 62) (text := "the index does not allow this") thIS (by decide) rfl dX_throwFor_62 dX_throwFor_65 dX_throwFor_66 dX_throwFor_68 dX_throwFor_71 (Nat.le_of_ble_eq_true rfl) (by omega) (by omega) (fun n2 hn2 => ⟨rfl, rfl, by omega⟩)
  · refine zC_of (ls := [some (.int (-4))]) hl (by decide +kernel) rfl (Nat.le_of_ble_eq_true rfl) rfl ?_
    refine zs_iload_n (pc := 0) dX_throwFor_0 rfl ?_
    refine zs_tableIn (pc := 1) (off := 51) 52 dX_throwFor_1 (by decide) (by decide) (by decide) rfl ?_
    exact zs_throw (pc := 52) (text := "no such segment") thIB (by decide) rfl dX_throwFor_52 dX_throwFor_55 dX_throwFor_56 dX_throwFor_58 dX_throwFor_61 (Nat.le_of_ble_eq_true rfl) (by omega) (by omega) (fun n2 hn2 => ⟨rfl, rfl, by omega⟩)
theorem s_X_change {Γ : zG} {l : Launch} (hl : l.stackTraces = false) {d : Nat} (hd : 6 ≤ d) {h : zH} {n : Nat} {B x c np : Nat} {g T : Nat → Nat} {P : Nat → Nat → Nat} {sv : Option (Nat → Nat)} {er fl : Option Nat} {L : List Nat} (hX : XR B h x g P c sv er fl T np L) (hB : B < 2 ^ 20) {k : Nat} (hk : k ≤ 9) (y z : Int32) : zC Γ l d mX_change [.ref x, .int (nI k), .int y, .int z] h n 1 6 (zXq x h n (zEs k) ((zdo g k y z).1, zans k (zdo g k y z)) (fun h1 => XR (B + 20) h1 x (zdo g k y z).2.2 (zkP (zdo g k y z).1 P c g) (zkc (zdo g k y z).1 c) sv er fl T np L)) := by
  have hX9 := hX; obtain ⟨⟨st, hst, hx, htr⟩, hR, hI, hsv, hH, hrk, hpg, hn60, hTc, hL, hag⟩ := hX; have i0 := hI.1
  have hlim := (zdo_lim (g := g) hk y z).1
  have hsame := (zdo_lim (g := g) hk y z).2
  have hab := zdo_ans hI hB hk y z
  have hI2 := hI.do hk y z
  obtain ⟨M0, m0, G0, a1, a2, hh1, a4, a5, a6, a7⟩ := id hH
  refine zC_of (ls := [some (.ref x), some (.int (nI k)), some (.int y), some (.int z), none]) hl (by decide +kernel) rfl (Nat.le_of_ble_eq_true rfl) rfl ?_
  refine zs_aload_n (pc := 0) dX_change_0 rfl ?_
  refine zs_get (pc := 1) dX_change_1 fX_22 (by first | exact hx | exact hx1 | exact hx2 | exact hx3) (by rfl) ?_
  refine zs_aload_n (pc := 4) dX_change_4 rfl ?_
  refine zs_get (pc := 5) dX_change_5 fX_12 (by first | exact hx | exact hx1 | exact hx2 | exact hx3) (by rfl) ?_
  refine zcVQ_1 (pc := 8) (d2 := d - 1) (s_H_mark hl (by omega) hH hR hI (by omega)) dX_change_8 kX_79 mdH_mark miH_mark mvH_mark rfl (by first | exact hh1 | exact hh2 | exact hh3) rfl (Nat.le_of_ble_eq_true rfl) (by omega) (by omega) (by omega) (fun v h7 n1 hq => ?_) (fun E h1 n1 hq => absurd hq.1 (by intro q; cases q))
  obtain ⟨hv9, rfl, hf9, hM⟩ := hq
  obtain rfl := Sum.inl.inj hv9
  have hx1 : h7 x = some (zXo x st sv.isSome er fl) := by rw [hf9 _ (by omega)]; exact hx
  have hR1 := hR.fr hf9 (by omega)
  obtain ⟨p1, Q1, hC1, hp1, hA1⟩ := id hR1
  have hh2 := hC1.1
  have hf1 := hf9
  have hM1 := hM
  have hk1 : ∀ q, ¬ (x + 85 ≤ q ∧ q < x + 465) → h7 q = h q := fun q q1 => hf1 q (by omega)
  refine zs_aload_n (pc := 11) dX_change_11 rfl ?_
  refine zs_get (pc := 12) dX_change_12 fX_12 (by first | exact hx | exact hx1 | exact hx2 | exact hx3) (by rfl) ?_
  refine zs_iload_n (pc := 15) dX_change_15 rfl ?_
  refine zs_iload_n (pc := 16) dX_change_16 rfl ?_
  refine zs_iload_n (pc := 17) dX_change_17 rfl ?_
  refine zcVQ_3 (pc := 18) (d2 := d - 1) (s_C_perform hl (by omega) hR1 hI hB hk y z) dX_change_18 kX_83 mdC_perform miC_perform mvC_perform rfl (by first | exact hh1 | exact hh2 | exact hh3) rfl (Nat.le_of_ble_eq_true rfl) (by omega) (by omega) (by omega) (fun v h8 n1 hq => ?_) (fun E h1 n1 hq => absurd hq.1 (by intro q; cases q))
  obtain ⟨hv9, rfl, hf9, hR2⟩ := hq
  obtain rfl := Sum.inl.inj hv9
  have hx2 : h8 x = some (zXo x st sv.isSome er fl) := by rw [hf9 _ (by omega)]; exact hx1
  have hf2 := hf9
  have hk2 : ∀ q, ¬ (x + 1 ≤ q ∧ q < x + 43) → ¬ (x + 85 ≤ q ∧ q < x + 465) → h8 q = h q := fun q q1 q2 => by rw [hf2 q (by omega)]; exact hk1 q q2
  have hM2 := hM1.fr hf2 (by omega)
  obtain ⟨m8, G8, b1, b2, hh3, b4, b5, b6, b7⟩ := id hM2
  generalize zdo g k y z = op at hlim hsame hab hI2 hR2 ⊢
  have hs2 := zXsv.mono (hsv.sm (fun q q1 q2 => hk2 q (by omega) (by omega))) (Nat.le_add_right B 20)
  have ht2 := htr.sm (fun q q1 q2 => hk2 q (by omega) (by omega))
  have hr2 := hrk.sm (fun q q1 q2 => hk2 q (by omega) (by omega))
  have hp2 := hpg.sm (fun q q1 q2 => hk2 q (by omega) (by omega))
  have hl2 := hL.sm (fun q q1 q2 => hk2 q (by omega) (by omega))
  have ha2 := hag.sm (fun q q1 q2 => hk2 q (by omega) (by omega))
  by_cases he : op.1 = 0
  · have hans : zans k op = nI op.2.1 := if_pos he
    have e1 : zkP op.1 P c g = zkeep P c g := if_pos he
    have e2 : zkc op.1 c = min 8 (c + 1) := if_pos he
    rw [hans, e1, e2, he]
    refine zs_istore (pc := 21) (ls2 := [_, _, _, _, _]) dX_change_21 (Nat.le_of_ble_eq_true rfl) rfl ?_
    refine zs_iload (pc := 23) dX_change_23 rfl ?_
    refine zs_if_ge (pc := 25) 33 dX_change_25 rfl (fun _ => ?_) (fun h9 => absurd h9 (fun q => q (nI_nn hab)))
    refine zs_aload_n (pc := 33) dX_change_33 rfl ?_
    refine zs_get (pc := 34) dX_change_34 fX_22 (by first | exact hx | exact hx1 | exact hx2 | exact hx3) (by rfl) ?_
    refine zcVQ_0 (pc := 37) (d2 := d - 1) (s_H_keepMark hl hM2) dX_change_37 kX_90 mdH_keepMark miH_keepMark mvH_keepMark rfl (by first | exact hh1 | exact hh2 | exact hh3) rfl (Nat.le_of_ble_eq_true rfl) (by omega) (by omega) (by omega) (fun v h1 n1 hq => ?_) (fun E h1 n1 hq => absurd hq.1 (by intro q; cases q))
    obtain ⟨hv9, rfl, hf9, hH3⟩ := hq
    obtain rfl := Sum.inl.inj hv9
    have hf3 := hf9
    have hx3 : h1 x = some (zXo x st sv.isSome er fl) := by rw [hf9 _ (by omega)]; exact hx2
    refine zs_aload_n (pc := 40) dX_change_40 rfl ?_
    refine zs_iconst (pc := 41) dX_change_41 zi_1 ?_
    refine zs_put (pc := 42) (fs2 := [_, _, _, _, _, _, _, _, _, _, _, _]) dX_change_42 fX_61 (by first | exact hx | exact hx1 | exact hx2 | exact hx3) (by rfl) (by rfl) (by exact Nat.le_of_ble_eq_true rfl) (by rfl) ?_
    refine zs_iload (pc := 45) dX_change_45 rfl ?_
    have hkz : ∀ q, q ≠ x → ¬ (x + 85 ≤ q ∧ q < x + 465) → zu h1 x (zXo x 1 sv.isSome er fl) q = h8 q := fun q q0 q2 => by rw [zu_n q0]; exact hf3 q (by omega)
    refine zs_iret (pc := 47) dX_change_47 rfl rfl (by omega) (by omega) (⟨zOut.y, fun q hq => ?_, ⟨1, by decide, zu_s, (ht2.old (g2 := op.2.2)).sm (fun q q1 q2 => hkz q (by omega) (by omega))⟩, hR2.sm (fun q q1 q2 => hkz q (by omega) (by omega)), hI2, hs2.sm (fun q q1 q2 => hkz q (by omega) (by omega)), (hH3.sm (fun q q1 q2 => zu_n (by omega))).mono (Nat.le_add_right B 20), hr2.sm (fun q q1 q2 => hkz q (by omega) (by omega)), hp2.sm (fun q q1 q2 => hkz q (by omega) (by omega)), hn60, hTc, hl2.sm (fun q q1 q2 => hkz q (by omega) (by omega)), ha2.sm (fun q q1 q2 => hkz q (by omega) (by omega))⟩)
    exact (hkz q (by omega) (by omega)).trans (hk2 q (by omega) (by omega))
  · have hans : zans k op = zneg k op.1 := if_neg he
    have e1 : zkP op.1 P c g = P := if_neg he
    have e2 : zkc op.1 c = c := if_neg he
    obtain ⟨z1, z2⟩ := zneg_ok k (by omega) op.1 hlim he
    have hneg : ¬ 0 ≤ zneg k op.1 := by rcases z1 with z | z | z | z <;> rw [z] <;> decide
    rw [hans, e1, e2]
    refine zs_istore (pc := 21) (ls2 := [_, _, _, _, _]) dX_change_21 (Nat.le_of_ble_eq_true rfl) rfl ?_
    refine zs_iload (pc := 23) dX_change_23 rfl ?_
    refine zs_if_ge (pc := 25) 33 dX_change_25 rfl (fun h9 => absurd h9 (hneg)) (fun _ => ?_)
    refine zs_iload (pc := 28) dX_change_28 rfl ?_
    refine zcST_1 (pc := 30) (d2 := d - 1) (s_X_throwFor hl z1) dX_change_30 kX_86 mdX_throwFor msX_throwFor rfl (Nat.le_of_ble_eq_true rfl) (by omega) (by omega) (by omega) rfl (fun n2 hn2 => ?_)
    rw [hsame he] at hR2 hI2 ⊢
    exact ⟨⟨fun q => absurd q he, fun _ => ⟨by rw [← z2], hn2⟩⟩, fun q hq => hk2 q (by omega) (by omega), ⟨st, hst, hx2, ht2⟩, hR2, hI2, hs2, HR.mono ⟨_, hM2⟩ (Nat.le_add_right B 20), hr2, hp2, hn60, hTc, hl2, ha2⟩

