/-! the whole object -/
def zXo (x st : Nat) (sv : Bool) (er fl : Option Nat) : zE := .inr (7, [.ref (x + 1), .ref (x + 43), .ref (x + 85), .ref (x + 465), .ref (x + 468), .ref (x + 471), .ref (x + 476), .ref (x + 479), .int (nI st), .int (nI (zb sv)), .int (zer er), .int (zer fl)])
def zXsv (h : zH) (x B : Nat) (sv : Option (Nat → Nat)) : Prop := ∃ s, CR h (x + 43) s ∧ IG B s ∧ ∀ s2, sv = some s2 → s = s2
def zXtr (h : zH) (x st : Nat) (g : Nat → Nat) : Prop := ∃ E C, TH h (x + 465) E C ∧ (st = 0 → E = zEj g (g 0) 0 ∧ C = zCj g (g 0) 0)
def zXrk (h : zH) (x : Nat) : Prop := ∃ u f s, RH h (x + 468) u f s
def zXpg (h : zH) (x : Nat) (T : Nat → Nat) (n : Nat) : Prop := ∃ po v c m K F S, PH h (x + 471) T n po v c m K F S
def zXag (h : zH) (x : Nat) : Prop := ∃ q, h (x + 479) = some (zEo q (x + 480)) ∧ h (x + 480) = some (zEc q)
def XR (B : Nat) (h : zH) (x : Nat) (g : Nat → Nat) (P : Nat → Nat → Nat) (c : Nat) (sv : Option (Nat → Nat)) (er fl : Option Nat) (T : Nat → Nat) (n : Nat) (L : List Nat) : Prop := (∃ st, st ≤ 1 ∧ h x = some (zXo x st sv.isSome er fl) ∧ zXtr h x st g) ∧ CR h (x + 1) g ∧ IG B g ∧ zXsv h x B sv ∧ HR B h (x + 85) P c ∧ zXrk h x ∧ zXpg h x T n ∧ n ≤ 60 ∧ (∀ i, i < n → T i < 128) ∧ LH h (x + 476) L ∧ zXag h x
/-- an outcome: code 0 and an answer, or an exception -/
def zOut (Es : List String) (a : Nat × Int32) (n : Nat) (o : Option Value ⊕ String) (n1 : Nat) : Prop := (a.1 = 0 → o = .inl (some (.int a.2)) ∧ n1 = n) ∧ (a.1 ≠ 0 → o = .inr (Es.getD a.1 "") ∧ n ≤ n1)
theorem zOut.y {Es : List String} {v : Int32} {n : Nat} : zOut Es (0, v) n (.inl (some (.int v))) n := ⟨fun _ => ⟨rfl, rfl⟩, fun h => absurd rfl h⟩
theorem zOut.n {Es : List String} {v : Int32} {n n1 k : Nat} {E : String} (hE : Es.getD (k + 1) "" = E) (hn : n ≤ n1) : zOut Es (k + 1, v) n (.inr E) n1 := ⟨fun h => absurd h (by show ¬ k + 1 = 0; omega), fun _ => ⟨by rw [hE], hn⟩⟩
def zXq (x : Nat) (h : zH) (n : Nat) (Es : List String) (a : Nat × Int32) (R : zH → Prop) : zQ := fun o h1 n1 => zOut Es a n o n1 ∧ zfr x 481 h h1 ∧ R h1
def sNS : String := "java/util/NoSuchElementException"
def sIA : String := "java/lang/IllegalArgumentException"
def sIB : String := "java/lang/IndexOutOfBoundsException"
def sIS : String := "java/lang/IllegalStateException"
def sAR : String := "java/lang/ArithmeticException"
/-! what the questions answer -/
def zIx (x : Int32) (m : Nat) : Bool := decide (0 ≤ x.toInt ∧ x.toInt < (m : Int))
theorem zIx_y {x : Int32} {m : Nat} (h : zIx x m = true) : x.toInt.toNat < m ∧ x = nI x.toInt.toNat := by
  obtain ⟨h1, h2⟩ := of_decide_eq_true h
  exact ⟨by omega, z_nI h1⟩
theorem zIx_n {x : Int32} {m : Nat} (h : zIx x m = false) (hx : ¬ x < 0) (hm : m < 2 ^ 31) : ¬ x < nI m := by
  obtain ⟨j, hj, rfl⟩ := nI_of hx
  have h2 := of_decide_eq_false h
  rw [nI_toInt hj] at h2
  rw [nI_ltI hj hm]
  omega
def aIdAt (g : Nat → Nat) (x : Int32) : Nat × Int32 := if zIx x (g 0) = true then (0, nI (eg g x.toInt.toNat 0)) else (1, -1)
def aOf (g : Nat → Nat) (x : Int32) (i : Nat) : Nat × Int32 := if zHas g x = true then (0, nI (eg g (zAt g x) i)) else (1, -1)
def aLife (g : Nat → Nat) (x : Int32) : Nat × Int32 := if zHas g x = true then (0, nI (zlife (eg g (zAt g x)))) else (1, -1)
def aCodeAt (g : Nat → Nat) (x y : Int32) : Nat × Int32 := if zHas g x = true then (if zIx y (eg g (zAt g x) 5) = true then (0, nI (eg g (zAt g x) (6 + y.toInt.toNat))) else (2, -1)) else (1, -1)
def aHas (g : Nat → Nat) (x y : Int32) : Nat × Int32 := if zHas g x = true then (if zV y 0 999 = true then (0, nI (zb (zin (eg g (zAt g x)) y.toInt.toNat))) else (2, -1)) else (1, -1)
def aMat (g : Nat → Nat) (x y z : Int32) : Nat × Int32 := if zHas g x = true then (if zPv y z = true then (0, nI (if 0 < zmany (eg g (zAt g x)) y.toInt.toNat z.toInt.toNat then 1 else 0)) else (2, -1)) else (1, -1)
def aIn (g : Nat → Nat) (x : Int32) : Nat × Int32 := if zIx x (g 2) = true then (0, nI (zcnt (fun k => eg g k 4 == x.toInt.toNat) (g 0))) else (1, -1)
def aScore (g : Nat → Nat) (x y z : Int32) : Nat × Int32 := if zHas g x = true then (if zPv y z = true then (0, zscore (eg g (zAt g x)) y.toInt.toNat z.toInt.toNat) else (2, -1)) else (1, -1)
def aLeft (g : Nat → Nat) (x : Int32) : Nat × Int32 := if zHas g x = true then (0, nI (zlife (eg g (zAt g x)) - eg g (zAt g x) 2 + 1)) else (1, -1)
def aShare (g : Nat → Nat) (x y : Int32) : Nat × Int32 := if zHas g x = true ∧ zHas g y = true then (0, nI (zshare (eg g (zAt g x)) (eg g (zAt g y)))) else (1, -1)
theorem s_X_existing_y {Γ : zG} {l : Launch} (hl : l.stackTraces = false) {d : Nat} (hd : 1 ≤ d) {h : zH} {n : Nat} {B x st k : Nat} {sv : Bool} {er fl : Option Nat} {g : Nat → Nat} {p : Nat → Nat} {Q : Nat → Nat → Nat} {y : Int32} (hx : h x = some (zXo x st sv er fl)) (hC : CH h (x + 1) p Q (zFg g)) (hp : PM p) (hA : ∀ j, j < g 0 → zAg (Q (p j)) (eg g j)) (hI : IG B g) (f1 : k < g 0) (f2 : nI (eg g k 0) = y) (f3 : ∀ i, i < k → nI (eg g i 0) ≠ y) : zC Γ l d mX_existing [.ref x, .int y] h n 0 0 (zR (some (.ref (x + 1 + 2 + 2 * p k))) h n) := by
  refine zC_of (ls := [some (.ref x), some (.int y), none]) hl (by decide +kernel) rfl (Nat.le_of_ble_eq_true rfl) rfl ?_
  refine zs_aload_n (pc := 0) dX_existing_0 rfl ?_
  refine zs_get (pc := 1) dX_existing_1 fX_12 (by exact hx) (by rfl) ?_
  refine zs_iload_n (pc := 4) dX_existing_4 rfl ?_
  refine zcV1_1 (pc := 5) (d2 := d - 1) (s_C_find_k hl hC hp hA hI f1 f2 f3) dX_existing_5 kX_169 mdC_find miC_find mvC_find rfl (by exact hC.1) rfl (Nat.le_of_ble_eq_true rfl) (by omega) (by omega) (by omega) ?_
  refine zs_astore_n (pc := 8) (ls2 := [_, _, _]) dX_existing_8 (Nat.le_of_ble_eq_true rfl) rfl ?_
  refine zs_aload_n (pc := 9) dX_existing_9 rfl ?_
  refine zs_ifnonnull (pc := 10) 23 dX_existing_10 rfl ?_
  refine zs_aload_n (pc := 23) dX_existing_23 rfl ?_
  exact zs_aret (pc := 24) dX_existing_24 rfl (by first | exact Or.inl rfl | exact Or.inr ⟨_, rfl⟩) (by omega) (by omega) (⟨rfl, rfl, rfl⟩)
theorem s_X_existing_n {Γ : zG} {l : Launch} (hl : l.stackTraces = false) {d : Nat} (hd : 1 ≤ d) {h : zH} {n : Nat} {B x st : Nat} {sv : Bool} {er fl : Option Nat} {g : Nat → Nat} {p : Nat → Nat} {Q : Nat → Nat → Nat} {y : Int32} (hx : h x = some (zXo x st sv er fl)) (hC : CH h (x + 1) p Q (zFg g)) (hp : PM p) (hA : ∀ j, j < g 0 → zAg (Q (p j)) (eg g j)) (hI : IG B g) (hy : zHas g y = false) : zC Γ l d mX_existing [.ref x, .int y] h n 1 6 (zTw sNS h n) := by
  refine zC_of (ls := [some (.ref x), some (.int y), none]) hl (by decide +kernel) rfl (Nat.le_of_ble_eq_true rfl) rfl ?_
  refine zs_aload_n (pc := 0) dX_existing_0 rfl ?_
  refine zs_get (pc := 1) dX_existing_1 fX_12 (by exact hx) (by rfl) ?_
  refine zs_iload_n (pc := 4) dX_existing_4 rfl ?_
  refine zcV1_1 (pc := 5) (d2 := d - 1) (s_C_find_gn hl hC hp hA hI hy) dX_existing_5 kX_169 mdC_find miC_find mvC_find rfl (by exact hC.1) rfl (Nat.le_of_ble_eq_true rfl) (by omega) (by omega) (by omega) ?_
  refine zs_astore_nN (pc := 8) (ls2 := [_, _, _]) dX_existing_8 (Nat.le_of_ble_eq_true rfl) rfl ?_
  refine zs_aload_nN (pc := 9) dX_existing_9 rfl ?_
  refine zs_ifnonnullN (pc := 10) dX_existing_10 ?_
  exact zs_throwN (pc := 13) (text := "no such entry") thNS (by decide) rfl dX_existing_13 dX_existing_16 dX_existing_17 dX_existing_19 dX_existing_22 (Nat.le_of_ble_eq_true rfl) (by omega) (by omega) (fun n2 hn2 => ⟨rfl, rfl, by omega⟩)
theorem s_X_entryCount {Γ : zG} {l : Launch} (hl : l.stackTraces = false) {d : Nat} {h : zH} {n : Nat} {B x c np : Nat} {g T : Nat → Nat} {P : Nat → Nat → Nat} {sv : Option (Nat → Nat)} {er fl : Option Nat} {L : List Nat} (hX : XR B h x g P c sv er fl T np L) : zC Γ l d mX_entryCount [.ref x] h n 0 0 (zXq x h n [""] (0, nI (g 0)) (fun h1 => XR B h1 x g P c sv er fl T np L)) := by
  have hX9 := hX
  obtain ⟨⟨st, hst, hx, htr⟩, ⟨p, Q, hC, hp, hA⟩, hI, -⟩ := hX
  refine zC_of (ls := [some (.ref x)]) hl (by decide +kernel) rfl (Nat.le_of_ble_eq_true rfl) rfl ?_
  refine zs_aload_n (pc := 0) dX_entryCount_0 rfl ?_
  refine zs_get (pc := 1) dX_entryCount_1 fX_12 (by first | exact hx | exact hC.1) (by rfl) ?_
  refine zs_get (pc := 4) dX_entryCount_4 fX_115 (by first | exact hx | exact hC.1) (by rfl) ?_
  exact zs_iret (pc := 7) dX_entryCount_7 rfl rfl (by omega) (by omega) (⟨zOut.y, zfr.rf, hX9⟩)
theorem s_X_segmentCount {Γ : zG} {l : Launch} (hl : l.stackTraces = false) {d : Nat} {h : zH} {n : Nat} {B x c np : Nat} {g T : Nat → Nat} {P : Nat → Nat → Nat} {sv : Option (Nat → Nat)} {er fl : Option Nat} {L : List Nat} (hX : XR B h x g P c sv er fl T np L) : zC Γ l d mX_segmentCount [.ref x] h n 0 0 (zXq x h n [""] (0, nI (g 2)) (fun h1 => XR B h1 x g P c sv er fl T np L)) := by
  have hX9 := hX
  obtain ⟨⟨st, hst, hx, htr⟩, ⟨p, Q, hC, hp, hA⟩, hI, -⟩ := hX
  refine zC_of (ls := [some (.ref x)]) hl (by decide +kernel) rfl (Nat.le_of_ble_eq_true rfl) rfl ?_
  refine zs_aload_n (pc := 0) dX_segmentCount_0 rfl ?_
  refine zs_get (pc := 1) dX_segmentCount_1 fX_12 (by first | exact hx | exact hC.1) (by rfl) ?_
  refine zs_get (pc := 4) dX_segmentCount_4 fX_172 (by first | exact hx | exact hC.1) (by rfl) ?_
  exact zs_iret (pc := 7) dX_segmentCount_7 rfl rfl (by omega) (by omega) (⟨zOut.y, zfr.rf, hX9⟩)
theorem s_X_addedTotal {Γ : zG} {l : Launch} (hl : l.stackTraces = false) {d : Nat} {h : zH} {n : Nat} {B x c np : Nat} {g T : Nat → Nat} {P : Nat → Nat → Nat} {sv : Option (Nat → Nat)} {er fl : Option Nat} {L : List Nat} (hX : XR B h x g P c sv er fl T np L) : zC Γ l d mX_addedTotal [.ref x] h n 0 0 (zXq x h n [""] (0, nI (g 1)) (fun h1 => XR B h1 x g P c sv er fl T np L)) := by
  have hX9 := hX
  obtain ⟨⟨st, hst, hx, htr⟩, ⟨p, Q, hC, hp, hA⟩, hI, -⟩ := hX
  refine zC_of (ls := [some (.ref x)]) hl (by decide +kernel) rfl (Nat.le_of_ble_eq_true rfl) rfl ?_
  refine zs_aload_n (pc := 0) dX_addedTotal_0 rfl ?_
  refine zs_get (pc := 1) dX_addedTotal_1 fX_12 (by first | exact hx | exact hC.1) (by rfl) ?_
  refine zs_get (pc := 4) dX_addedTotal_4 fX_255 (by first | exact hx | exact hC.1) (by rfl) ?_
  exact zs_iret (pc := 7) dX_addedTotal_7 rfl rfl (by omega) (by omega) (⟨zOut.y, zfr.rf, hX9⟩)
theorem s_X_removedTotal {Γ : zG} {l : Launch} (hl : l.stackTraces = false) {d : Nat} {h : zH} {n : Nat} {B x c np : Nat} {g T : Nat → Nat} {P : Nat → Nat → Nat} {sv : Option (Nat → Nat)} {er fl : Option Nat} {L : List Nat} (hX : XR B h x g P c sv er fl T np L) : zC Γ l d mX_removedTotal [.ref x] h n 0 0 (zXq x h n [""] (0, nI (g 3)) (fun h1 => XR B h1 x g P c sv er fl T np L)) := by
  have hX9 := hX
  obtain ⟨⟨st, hst, hx, htr⟩, ⟨p, Q, hC, hp, hA⟩, hI, -⟩ := hX
  refine zC_of (ls := [some (.ref x)]) hl (by decide +kernel) rfl (Nat.le_of_ble_eq_true rfl) rfl ?_
  refine zs_aload_n (pc := 0) dX_removedTotal_0 rfl ?_
  refine zs_get (pc := 1) dX_removedTotal_1 fX_12 (by first | exact hx | exact hC.1) (by rfl) ?_
  refine zs_get (pc := 4) dX_removedTotal_4 fX_258 (by first | exact hx | exact hC.1) (by rfl) ?_
  exact zs_iret (pc := 7) dX_removedTotal_7 rfl rfl (by omega) (by omega) (⟨zOut.y, zfr.rf, hX9⟩)
theorem s_X_mergedTotal {Γ : zG} {l : Launch} (hl : l.stackTraces = false) {d : Nat} {h : zH} {n : Nat} {B x c np : Nat} {g T : Nat → Nat} {P : Nat → Nat → Nat} {sv : Option (Nat → Nat)} {er fl : Option Nat} {L : List Nat} (hX : XR B h x g P c sv er fl T np L) : zC Γ l d mX_mergedTotal [.ref x] h n 0 0 (zXq x h n [""] (0, nI (g 4)) (fun h1 => XR B h1 x g P c sv er fl T np L)) := by
  have hX9 := hX
  obtain ⟨⟨st, hst, hx, htr⟩, ⟨p, Q, hC, hp, hA⟩, hI, -⟩ := hX
  refine zC_of (ls := [some (.ref x)]) hl (by decide +kernel) rfl (Nat.le_of_ble_eq_true rfl) rfl ?_
  refine zs_aload_n (pc := 0) dX_mergedTotal_0 rfl ?_
  refine zs_get (pc := 1) dX_mergedTotal_1 fX_12 (by first | exact hx | exact hC.1) (by rfl) ?_
  refine zs_get (pc := 4) dX_mergedTotal_4 fX_261 (by first | exact hx | exact hC.1) (by rfl) ?_
  exact zs_iret (pc := 7) dX_mergedTotal_7 rfl rfl (by omega) (by omega) (⟨zOut.y, zfr.rf, hX9⟩)
theorem s_X_fadedTotal {Γ : zG} {l : Launch} (hl : l.stackTraces = false) {d : Nat} {h : zH} {n : Nat} {B x c np : Nat} {g T : Nat → Nat} {P : Nat → Nat → Nat} {sv : Option (Nat → Nat)} {er fl : Option Nat} {L : List Nat} (hX : XR B h x g P c sv er fl T np L) : zC Γ l d mX_fadedTotal [.ref x] h n 0 0 (zXq x h n [""] (0, nI (g 5)) (fun h1 => XR B h1 x g P c sv er fl T np L)) := by
  have hX9 := hX
  obtain ⟨⟨st, hst, hx, htr⟩, ⟨p, Q, hC, hp, hA⟩, hI, -⟩ := hX
  refine zC_of (ls := [some (.ref x)]) hl (by decide +kernel) rfl (Nat.le_of_ble_eq_true rfl) rfl ?_
  refine zs_aload_n (pc := 0) dX_fadedTotal_0 rfl ?_
  refine zs_get (pc := 1) dX_fadedTotal_1 fX_12 (by first | exact hx | exact hC.1) (by rfl) ?_
  refine zs_get (pc := 4) dX_fadedTotal_4 fX_264 (by first | exact hx | exact hC.1) (by rfl) ?_
  exact zs_iret (pc := 7) dX_fadedTotal_7 rfl rfl (by omega) (by omega) (⟨zOut.y, zfr.rf, hX9⟩)
theorem s_X_undoableCount {Γ : zG} {l : Launch} (hl : l.stackTraces = false) {d : Nat} {h : zH} {n : Nat} {B x c np : Nat} {g T : Nat → Nat} {P : Nat → Nat → Nat} {sv : Option (Nat → Nat)} {er fl : Option Nat} {L : List Nat} (hX : XR B h x g P c sv er fl T np L) : zC Γ l d mX_undoableCount [.ref x] h n 0 0 (zXq x h n [""] (0, nI c) (fun h1 => XR B h1 x g P c sv er fl T np L)) := by
  have hX9 := hX
  obtain ⟨⟨st, hst, hx, htr⟩, -, -, -, ⟨M, m, G, -, -, hh, -⟩, -⟩ := hX
  refine zC_of (ls := [some (.ref x)]) hl (by decide +kernel) rfl (Nat.le_of_ble_eq_true rfl) rfl ?_
  refine zs_aload_n (pc := 0) dX_undoableCount_0 rfl ?_
  refine zs_get (pc := 1) dX_undoableCount_1 fX_22 (by first | exact hx | exact hh) (by rfl) ?_
  refine zs_get (pc := 4) dX_undoableCount_4 fX_372 (by first | exact hx | exact hh) (by rfl) ?_
  exact zs_iret (pc := 7) dX_undoableCount_7 rfl rfl (by omega) (by omega) (⟨zOut.y, zfr.rf, hX9⟩)
def aErrorPosition (er : Option Nat) : Nat × Int32 := match er with
  | none => (1, -1)
  | some p => (0, nI p)
theorem s_X_errorPosition {Γ : zG} {l : Launch} (hl : l.stackTraces = false) {d : Nat} {h : zH} {n : Nat} {B x c np : Nat} {g T : Nat → Nat} {P : Nat → Nat → Nat} {sv : Option (Nat → Nat)} {er fl : Option Nat} {L : List Nat} (hX : XR B h x g P c sv er fl T np L) (hb : ∀ p, er = some p → p < 2 ^ 20) : zC Γ l d mX_errorPosition [.ref x] h n 1 6 (zXq x h n ["", sNS] (aErrorPosition er) (fun h1 => XR B h1 x g P c sv er fl T np L)) := by
  have hX9 := hX
  obtain ⟨⟨st, hst, hx, htr⟩, -⟩ := hX
  refine zC_of (ls := [some (.ref x)]) hl (by decide +kernel) rfl (Nat.le_of_ble_eq_true rfl) rfl ?_
  cases er with
  | none =>
    refine zs_aload_n (pc := 0) dX_errorPosition_0 rfl ?_
    refine zs_get (pc := 1) dX_errorPosition_1 fX_68 (by exact hx) (by rfl) ?_
    refine zs_iconst (pc := 4) dX_errorPosition_4 zi_m1 ?_
    refine zs_icmp_ne (pc := 5) 19 dX_errorPosition_5 rfl (fun h9 => absurd h9 (fun q => q rfl)) (fun _ => ?_)
    exact zs_throwNW (pc := 8) (text := "no program was malformed") thNS (by decide) rfl dX_errorPosition_8 dX_errorPosition_11 dX_errorPosition_12 dX_errorPosition_15 dX_errorPosition_18 (Nat.le_of_ble_eq_true rfl) (by omega) (by omega) (fun n2 hn2 => ⟨zOut.n rfl hn2, zfr.rf, hX9⟩)
  | some p =>
    have hp := hb p rfl
    have hne : ¬ zer (some p) = -1 := fun q => by
      have h9 := nI_pos (n := p) (by omega)
      have q : nI p = -1 := q
      rw [q] at h9
      exact h9 (by decide)
    refine zs_aload_n (pc := 0) dX_errorPosition_0 rfl ?_
    refine zs_get (pc := 1) dX_errorPosition_1 fX_68 (by exact hx) (by rfl) ?_
    refine zs_iconst (pc := 4) dX_errorPosition_4 zi_m1 ?_
    refine zs_icmp_ne (pc := 5) 19 dX_errorPosition_5 rfl (fun _ => ?_) (fun h9 => absurd h9 (hne))
    refine zs_aload_n (pc := 19) dX_errorPosition_19 rfl ?_
    refine zs_get (pc := 20) dX_errorPosition_20 fX_68 (by exact hx) (by rfl) ?_
    exact zs_iret (pc := 23) dX_errorPosition_23 rfl rfl (by omega) (by omega) (⟨zOut.y, zfr.rf, hX9⟩)
def aFailedCommand (fl : Option Nat) : Nat × Int32 := match fl with
  | none => (1, -1)
  | some p => (0, nI p)
theorem s_X_failedCommand {Γ : zG} {l : Launch} (hl : l.stackTraces = false) {d : Nat} {h : zH} {n : Nat} {B x c np : Nat} {g T : Nat → Nat} {P : Nat → Nat → Nat} {sv : Option (Nat → Nat)} {er fl : Option Nat} {L : List Nat} (hX : XR B h x g P c sv er fl T np L) (hb : ∀ p, fl = some p → p < 2 ^ 20) : zC Γ l d mX_failedCommand [.ref x] h n 1 6 (zXq x h n ["", sNS] (aFailedCommand fl) (fun h1 => XR B h1 x g P c sv er fl T np L)) := by
  have hX9 := hX
  obtain ⟨⟨st, hst, hx, htr⟩, -⟩ := hX
  refine zC_of (ls := [some (.ref x)]) hl (by decide +kernel) rfl (Nat.le_of_ble_eq_true rfl) rfl ?_
  cases fl with
  | none =>
    refine zs_aload_n (pc := 0) dX_failedCommand_0 rfl ?_
    refine zs_get (pc := 1) dX_failedCommand_1 fX_72 (by exact hx) (by rfl) ?_
    refine zs_iconst (pc := 4) dX_failedCommand_4 zi_m1 ?_
    refine zs_icmp_ne (pc := 5) 19 dX_failedCommand_5 rfl (fun h9 => absurd h9 (fun q => q rfl)) (fun _ => ?_)
    exact zs_throwNW (pc := 8) (text := "no command failed") thNS (by decide) rfl dX_failedCommand_8 dX_failedCommand_11 dX_failedCommand_12 dX_failedCommand_15 dX_failedCommand_18 (Nat.le_of_ble_eq_true rfl) (by omega) (by omega) (fun n2 hn2 => ⟨zOut.n rfl hn2, zfr.rf, hX9⟩)
  | some p =>
    have hp := hb p rfl
    have hne : ¬ zer (some p) = -1 := fun q => by
      have h9 := nI_pos (n := p) (by omega)
      have q : nI p = -1 := q
      rw [q] at h9
      exact h9 (by decide)
    refine zs_aload_n (pc := 0) dX_failedCommand_0 rfl ?_
    refine zs_get (pc := 1) dX_failedCommand_1 fX_72 (by exact hx) (by rfl) ?_
    refine zs_iconst (pc := 4) dX_failedCommand_4 zi_m1 ?_
    refine zs_icmp_ne (pc := 5) 19 dX_failedCommand_5 rfl (fun _ => ?_) (fun h9 => absurd h9 (hne))
    refine zs_aload_n (pc := 19) dX_failedCommand_19 rfl ?_
    refine zs_get (pc := 20) dX_failedCommand_20 fX_72 (by exact hx) (by rfl) ?_
    exact zs_iret (pc := 23) dX_failedCommand_23 rfl rfl (by omega) (by omega) (⟨zOut.y, zfr.rf, hX9⟩)
theorem s_X_idAt {Γ : zG} {l : Launch} (hl : l.stackTraces = false) {d : Nat} {h : zH} {n : Nat} {B x c np : Nat} {g T : Nat → Nat} {P : Nat → Nat → Nat} {sv : Option (Nat → Nat)} {er fl : Option Nat} {L : List Nat} (hX : XR B h x g P c sv er fl T np L) (y : Int32) : zC Γ l d mX_idAt [.ref x, .int y] h n 1 6 (zXq x h n ["", sIB] (aIdAt g y) (fun h1 => XR B h1 x g P c sv er fl T np L)) := by
  have hX9 := hX
  obtain ⟨⟨st, hst, hx, htr⟩, ⟨p, Q, hC, hp, hA⟩, hI, -⟩ := hX
  have i0 := hI.1
  have e1 : zFg g 1 = g 0 := rfl
  unfold aIdAt
  refine zC_of (ls := [some (.ref x), some (.int y)]) hl (by decide +kernel) rfl (Nat.le_of_ble_eq_true rfl) rfl ?_
  cases hv : zIx y (g 0) with
  | true =>
    rw [if_pos rfl]
    obtain ⟨v1, v2⟩ := zIx_y hv
    generalize y.toInt.toNat = k at v1 v2 ⊢
    subst v2
    have h0 := hC.2.2 (p k) (hp.1 k (by omega))
    refine zs_iload_n (pc := 0) dX_idAt_0 rfl ?_
    refine zs_if_lt (pc := 1) 15 dX_idAt_1 rfl (fun h9 => absurd h9 (nI_pos (by omega))) (fun _ => ?_)
    refine zs_iload_n (pc := 4) dX_idAt_4 rfl ?_
    refine zs_aload_n (pc := 5) dX_idAt_5 rfl ?_
    refine zs_get (pc := 6) dX_idAt_6 fX_12 (by first | exact hx | exact hC.1 | exact hC.2.1 | exact h0.1) (by rfl) ?_
    refine zs_get (pc := 9) dX_idAt_9 fX_115 (by first | exact hx | exact hC.1 | exact hC.2.1 | exact h0.1) (by rfl) ?_
    refine zn_icmp_lt (pc := 12) 25 dX_idAt_12 rfl (by omega) (by omega) (fun _ => ?_) (fun h9 => absurd h9 (fun q => Nat.not_le.mpr v1 q))
    refine zs_aload_n (pc := 25) dX_idAt_25 rfl ?_
    refine zs_get (pc := 26) dX_idAt_26 fX_12 (by first | exact hx | exact hC.1 | exact hC.2.1 | exact h0.1) (by rfl) ?_
    refine zs_get (pc := 29) dX_idAt_29 fX_120 (by first | exact hx | exact hC.1 | exact hC.2.1 | exact h0.1) (by rfl) ?_
    refine zs_iload_n (pc := 32) dX_idAt_32 rfl ?_
    refine zn_aald (pc := 33) (Or.inl rfl) dX_idAt_33 (by first | exact hx | exact hC.1 | exact hC.2.1 | exact h0.1) (by omega) (by decide) (by rfl) ?_
    refine zs_get (pc := 34) dX_idAt_34 fX_124 (by first | exact hx | exact hC.1 | exact hC.2.1 | exact h0.1) (by rfl) ?_
    rw [hA k v1 0 (by omega)]
    exact zs_iret (pc := 37) dX_idAt_37 rfl rfl (by omega) (by omega) (⟨zOut.y, zfr.rf, hX9⟩)
  | false =>
    rw [if_neg (by decide)]
    refine zs_iload_n (pc := 0) dX_idAt_0 rfl ?_
    refine zs_if_lt (pc := 1) 15 dX_idAt_1 rfl (fun hb => ?_) (fun hb => ?_)
    · exact zs_throw (pc := 15) (text := "no such position") thIB (by decide) rfl dX_idAt_15 dX_idAt_18 dX_idAt_19 dX_idAt_21 dX_idAt_24 (Nat.le_of_ble_eq_true rfl) (by omega) (by omega) (fun n2 hn2 => ⟨zOut.n rfl hn2, zfr.rf, hX9⟩)
    · refine zs_iload_n (pc := 4) dX_idAt_4 rfl ?_
      refine zs_aload_n (pc := 5) dX_idAt_5 rfl ?_
      refine zs_get (pc := 6) dX_idAt_6 fX_12 (by first | exact hx | exact hC.1 | exact hC.2.1 | exact h0.1) (by rfl) ?_
      refine zs_get (pc := 9) dX_idAt_9 fX_115 (by first | exact hx | exact hC.1 | exact hC.2.1 | exact h0.1) (by rfl) ?_
      refine zs_icmp_lt (pc := 12) 25 dX_idAt_12 rfl (fun h9 => absurd h9 (zIx_n hv hb (show g 0 < 2 ^ 31 by omega))) (fun _ => ?_)
      exact zs_throw (pc := 15) (text := "no such position") thIB (by decide) rfl dX_idAt_15 dX_idAt_18 dX_idAt_19 dX_idAt_21 dX_idAt_24 (Nat.le_of_ble_eq_true rfl) (by omega) (by omega) (fun n2 hn2 => ⟨zOut.n rfl hn2, zfr.rf, hX9⟩)
theorem s_X_weightOf {Γ : zG} {l : Launch} (hl : l.stackTraces = false) {d : Nat} (hd : 3 ≤ d) {h : zH} {n : Nat} {B x c np : Nat} {g T : Nat → Nat} {P : Nat → Nat → Nat} {sv : Option (Nat → Nat)} {er fl : Option Nat} {L : List Nat} (hX : XR B h x g P c sv er fl T np L) (hB : B < 2 ^ 20) (y : Int32) : zC Γ l d mX_weightOf [.ref x, .int y] h n 1 6 (zXq x h n ["", sNS] (aOf g y 1) (fun h1 => XR B h1 x g P c sv er fl T np L)) := by
  have hX9 := hX
  obtain ⟨⟨st, hst, hx, htr⟩, ⟨p, Q, hC, hp, hA⟩, hI, -⟩ := hX
  have i0 := hI.1
  unfold aOf
  refine zC_of (ls := [some (.ref x), some (.int y)]) hl (by decide +kernel) rfl (Nat.le_of_ble_eq_true rfl) rfl ?_
  cases hH : zHas g y with
  | true =>
    rw [if_pos rfl]
    obtain ⟨f1, f2, f3⟩ := zHas_y hH
    generalize zAt g y = k at f1 f2 f3 ⊢
    have h0 := hC.2.2 (p k) (hp.1 k (by omega))
    have hA1 := hA k f1
    have hb := hA1.b (hI.b hB f1)
    refine zs_aload_n (pc := 0) dX_weightOf_0 rfl ?_
    refine zs_iload_n (pc := 1) dX_weightOf_1 rfl ?_
    refine zcV1_1 (pc := 2) (d2 := d - 1) (s_X_existing_y hl (by omega) hx hC hp hA hI f1 f2 f3) dX_weightOf_2 kX_127 mdX_existing miX_existing mvX_existing rfl (by first | exact hx | exact h0.1) rfl (Nat.le_of_ble_eq_true rfl) (by omega) (by omega) (by omega) ?_
    refine zs_get (pc := 5) dX_weightOf_5 fX_131 (by exact h0.1) (by rfl) ?_
    rw [hA1 1 (by omega)]
    exact zs_iret (pc := 8) dX_weightOf_8 rfl rfl (by omega) (by omega) (⟨zOut.y, zfr.rf, hX9⟩)
  | false =>
    rw [if_neg (by decide)]
    refine zs_aload_n (pc := 0) dX_weightOf_0 rfl ?_
    refine zs_iload_n (pc := 1) dX_weightOf_1 rfl ?_
    refine zcVT_1 (pc := 2) (d2 := d - 1) (s_X_existing_n hl (by omega) hx hC hp hA hI hH) dX_weightOf_2 kX_127 mdX_existing miX_existing mvX_existing rfl (by first | exact hx | exact h0.1) rfl (Nat.le_of_ble_eq_true rfl) (by omega) (by omega) (by omega) rfl (fun n2 hn2 => ?_)
    exact ⟨zOut.n rfl hn2, zfr.rf, hX9⟩
theorem s_X_ageOf {Γ : zG} {l : Launch} (hl : l.stackTraces = false) {d : Nat} (hd : 3 ≤ d) {h : zH} {n : Nat} {B x c np : Nat} {g T : Nat → Nat} {P : Nat → Nat → Nat} {sv : Option (Nat → Nat)} {er fl : Option Nat} {L : List Nat} (hX : XR B h x g P c sv er fl T np L) (hB : B < 2 ^ 20) (y : Int32) : zC Γ l d mX_ageOf [.ref x, .int y] h n 1 6 (zXq x h n ["", sNS] (aOf g y 2) (fun h1 => XR B h1 x g P c sv er fl T np L)) := by
  have hX9 := hX
  obtain ⟨⟨st, hst, hx, htr⟩, ⟨p, Q, hC, hp, hA⟩, hI, -⟩ := hX
  have i0 := hI.1
  unfold aOf
  refine zC_of (ls := [some (.ref x), some (.int y)]) hl (by decide +kernel) rfl (Nat.le_of_ble_eq_true rfl) rfl ?_
  cases hH : zHas g y with
  | true =>
    rw [if_pos rfl]
    obtain ⟨f1, f2, f3⟩ := zHas_y hH
    generalize zAt g y = k at f1 f2 f3 ⊢
    have h0 := hC.2.2 (p k) (hp.1 k (by omega))
    have hA1 := hA k f1
    have hb := hA1.b (hI.b hB f1)
    refine zs_aload_n (pc := 0) dX_ageOf_0 rfl ?_
    refine zs_iload_n (pc := 1) dX_ageOf_1 rfl ?_
    refine zcV1_1 (pc := 2) (d2 := d - 1) (s_X_existing_y hl (by omega) hx hC hp hA hI f1 f2 f3) dX_ageOf_2 kX_127 mdX_existing miX_existing mvX_existing rfl (by first | exact hx | exact h0.1) rfl (Nat.le_of_ble_eq_true rfl) (by omega) (by omega) (by omega) ?_
    refine zs_get (pc := 5) dX_ageOf_5 fX_134 (by exact h0.1) (by rfl) ?_
    rw [hA1 2 (by omega)]
    exact zs_iret (pc := 8) dX_ageOf_8 rfl rfl (by omega) (by omega) (⟨zOut.y, zfr.rf, hX9⟩)
  | false =>
    rw [if_neg (by decide)]
    refine zs_aload_n (pc := 0) dX_ageOf_0 rfl ?_
    refine zs_iload_n (pc := 1) dX_ageOf_1 rfl ?_
    refine zcVT_1 (pc := 2) (d2 := d - 1) (s_X_existing_n hl (by omega) hx hC hp hA hI hH) dX_ageOf_2 kX_127 mdX_existing miX_existing mvX_existing rfl (by first | exact hx | exact h0.1) rfl (Nat.le_of_ble_eq_true rfl) (by omega) (by omega) (by omega) rfl (fun n2 hn2 => ?_)
    exact ⟨zOut.n rfl hn2, zfr.rf, hX9⟩
theorem s_X_hitsOf {Γ : zG} {l : Launch} (hl : l.stackTraces = false) {d : Nat} (hd : 3 ≤ d) {h : zH} {n : Nat} {B x c np : Nat} {g T : Nat → Nat} {P : Nat → Nat → Nat} {sv : Option (Nat → Nat)} {er fl : Option Nat} {L : List Nat} (hX : XR B h x g P c sv er fl T np L) (hB : B < 2 ^ 20) (y : Int32) : zC Γ l d mX_hitsOf [.ref x, .int y] h n 1 6 (zXq x h n ["", sNS] (aOf g y 3) (fun h1 => XR B h1 x g P c sv er fl T np L)) := by
  have hX9 := hX
  obtain ⟨⟨st, hst, hx, htr⟩, ⟨p, Q, hC, hp, hA⟩, hI, -⟩ := hX
  have i0 := hI.1
  unfold aOf
  refine zC_of (ls := [some (.ref x), some (.int y)]) hl (by decide +kernel) rfl (Nat.le_of_ble_eq_true rfl) rfl ?_
  cases hH : zHas g y with
  | true =>
    rw [if_pos rfl]
    obtain ⟨f1, f2, f3⟩ := zHas_y hH
    generalize zAt g y = k at f1 f2 f3 ⊢
    have h0 := hC.2.2 (p k) (hp.1 k (by omega))
    have hA1 := hA k f1
    have hb := hA1.b (hI.b hB f1)
    refine zs_aload_n (pc := 0) dX_hitsOf_0 rfl ?_
    refine zs_iload_n (pc := 1) dX_hitsOf_1 rfl ?_
    refine zcV1_1 (pc := 2) (d2 := d - 1) (s_X_existing_y hl (by omega) hx hC hp hA hI f1 f2 f3) dX_hitsOf_2 kX_127 mdX_existing miX_existing mvX_existing rfl (by first | exact hx | exact h0.1) rfl (Nat.le_of_ble_eq_true rfl) (by omega) (by omega) (by omega) ?_
    refine zs_get (pc := 5) dX_hitsOf_5 fX_137 (by exact h0.1) (by rfl) ?_
    rw [hA1 3 (by omega)]
    exact zs_iret (pc := 8) dX_hitsOf_8 rfl rfl (by omega) (by omega) (⟨zOut.y, zfr.rf, hX9⟩)
  | false =>
    rw [if_neg (by decide)]
    refine zs_aload_n (pc := 0) dX_hitsOf_0 rfl ?_
    refine zs_iload_n (pc := 1) dX_hitsOf_1 rfl ?_
    refine zcVT_1 (pc := 2) (d2 := d - 1) (s_X_existing_n hl (by omega) hx hC hp hA hI hH) dX_hitsOf_2 kX_127 mdX_existing miX_existing mvX_existing rfl (by first | exact hx | exact h0.1) rfl (Nat.le_of_ble_eq_true rfl) (by omega) (by omega) (by omega) rfl (fun n2 hn2 => ?_)
    exact ⟨zOut.n rfl hn2, zfr.rf, hX9⟩
theorem s_X_segmentOf {Γ : zG} {l : Launch} (hl : l.stackTraces = false) {d : Nat} (hd : 3 ≤ d) {h : zH} {n : Nat} {B x c np : Nat} {g T : Nat → Nat} {P : Nat → Nat → Nat} {sv : Option (Nat → Nat)} {er fl : Option Nat} {L : List Nat} (hX : XR B h x g P c sv er fl T np L) (hB : B < 2 ^ 20) (y : Int32) : zC Γ l d mX_segmentOf [.ref x, .int y] h n 1 6 (zXq x h n ["", sNS] (aOf g y 4) (fun h1 => XR B h1 x g P c sv er fl T np L)) := by
  have hX9 := hX
  obtain ⟨⟨st, hst, hx, htr⟩, ⟨p, Q, hC, hp, hA⟩, hI, -⟩ := hX
  have i0 := hI.1
  unfold aOf
  refine zC_of (ls := [some (.ref x), some (.int y)]) hl (by decide +kernel) rfl (Nat.le_of_ble_eq_true rfl) rfl ?_
  cases hH : zHas g y with
  | true =>
    rw [if_pos rfl]
    obtain ⟨f1, f2, f3⟩ := zHas_y hH
    generalize zAt g y = k at f1 f2 f3 ⊢
    have h0 := hC.2.2 (p k) (hp.1 k (by omega))
    have hA1 := hA k f1
    have hb := hA1.b (hI.b hB f1)
    refine zs_aload_n (pc := 0) dX_segmentOf_0 rfl ?_
    refine zs_iload_n (pc := 1) dX_segmentOf_1 rfl ?_
    refine zcV1_1 (pc := 2) (d2 := d - 1) (s_X_existing_y hl (by omega) hx hC hp hA hI f1 f2 f3) dX_segmentOf_2 kX_127 mdX_existing miX_existing mvX_existing rfl (by first | exact hx | exact h0.1) rfl (Nat.le_of_ble_eq_true rfl) (by omega) (by omega) (by omega) ?_
    refine zs_get (pc := 5) dX_segmentOf_5 fX_144 (by exact h0.1) (by rfl) ?_
    rw [hA1 4 (by omega)]
    exact zs_iret (pc := 8) dX_segmentOf_8 rfl rfl (by omega) (by omega) (⟨zOut.y, zfr.rf, hX9⟩)
  | false =>
    rw [if_neg (by decide)]
    refine zs_aload_n (pc := 0) dX_segmentOf_0 rfl ?_
    refine zs_iload_n (pc := 1) dX_segmentOf_1 rfl ?_
    refine zcVT_1 (pc := 2) (d2 := d - 1) (s_X_existing_n hl (by omega) hx hC hp hA hI hH) dX_segmentOf_2 kX_127 mdX_existing miX_existing mvX_existing rfl (by first | exact hx | exact h0.1) rfl (Nat.le_of_ble_eq_true rfl) (by omega) (by omega) (by omega) rfl (fun n2 hn2 => ?_)
    exact ⟨zOut.n rfl hn2, zfr.rf, hX9⟩
theorem s_X_codeCount {Γ : zG} {l : Launch} (hl : l.stackTraces = false) {d : Nat} (hd : 3 ≤ d) {h : zH} {n : Nat} {B x c np : Nat} {g T : Nat → Nat} {P : Nat → Nat → Nat} {sv : Option (Nat → Nat)} {er fl : Option Nat} {L : List Nat} (hX : XR B h x g P c sv er fl T np L) (hB : B < 2 ^ 20) (y : Int32) : zC Γ l d mX_codeCount [.ref x, .int y] h n 1 6 (zXq x h n ["", sNS] (aOf g y 5) (fun h1 => XR B h1 x g P c sv er fl T np L)) := by
  have hX9 := hX
  obtain ⟨⟨st, hst, hx, htr⟩, ⟨p, Q, hC, hp, hA⟩, hI, -⟩ := hX
  have i0 := hI.1
  unfold aOf
  refine zC_of (ls := [some (.ref x), some (.int y)]) hl (by decide +kernel) rfl (Nat.le_of_ble_eq_true rfl) rfl ?_
  cases hH : zHas g y with
  | true =>
    rw [if_pos rfl]
    obtain ⟨f1, f2, f3⟩ := zHas_y hH
    generalize zAt g y = k at f1 f2 f3 ⊢
    have h0 := hC.2.2 (p k) (hp.1 k (by omega))
    have hA1 := hA k f1
    have hb := hA1.b (hI.b hB f1)
    refine zs_aload_n (pc := 0) dX_codeCount_0 rfl ?_
    refine zs_iload_n (pc := 1) dX_codeCount_1 rfl ?_
    refine zcV1_1 (pc := 2) (d2 := d - 1) (s_X_existing_y hl (by omega) hx hC hp hA hI f1 f2 f3) dX_codeCount_2 kX_127 mdX_existing miX_existing mvX_existing rfl (by first | exact hx | exact h0.1) rfl (Nat.le_of_ble_eq_true rfl) (by omega) (by omega) (by omega) ?_
    refine zs_get (pc := 5) dX_codeCount_5 fX_147 (by exact h0.1) (by rfl) ?_
    rw [hA1 5 (by omega)]
    exact zs_iret (pc := 8) dX_codeCount_8 rfl rfl (by omega) (by omega) (⟨zOut.y, zfr.rf, hX9⟩)
  | false =>
    rw [if_neg (by decide)]
    refine zs_aload_n (pc := 0) dX_codeCount_0 rfl ?_
    refine zs_iload_n (pc := 1) dX_codeCount_1 rfl ?_
    refine zcVT_1 (pc := 2) (d2 := d - 1) (s_X_existing_n hl (by omega) hx hC hp hA hI hH) dX_codeCount_2 kX_127 mdX_existing miX_existing mvX_existing rfl (by first | exact hx | exact h0.1) rfl (Nat.le_of_ble_eq_true rfl) (by omega) (by omega) (by omega) rfl (fun n2 hn2 => ?_)
    exact ⟨zOut.n rfl hn2, zfr.rf, hX9⟩
theorem s_X_lifetimeOf {Γ : zG} {l : Launch} (hl : l.stackTraces = false) {d : Nat} (hd : 3 ≤ d) {h : zH} {n : Nat} {B x c np : Nat} {g T : Nat → Nat} {P : Nat → Nat → Nat} {sv : Option (Nat → Nat)} {er fl : Option Nat} {L : List Nat} (hX : XR B h x g P c sv er fl T np L) (hB : B < 2 ^ 20) (y : Int32) : zC Γ l d mX_lifetimeOf [.ref x, .int y] h n 1 6 (zXq x h n ["", sNS] (aLife g y) (fun h1 => XR B h1 x g P c sv er fl T np L)) := by
  have hX9 := hX
  obtain ⟨⟨st, hst, hx, htr⟩, ⟨p, Q, hC, hp, hA⟩, hI, -⟩ := hX
  have i0 := hI.1
  unfold aLife
  refine zC_of (ls := [some (.ref x), some (.int y)]) hl (by decide +kernel) rfl (Nat.le_of_ble_eq_true rfl) rfl ?_
  cases hH : zHas g y with
  | true =>
    rw [if_pos rfl]
    obtain ⟨f1, f2, f3⟩ := zHas_y hH
    generalize zAt g y = k at f1 f2 f3 ⊢
    have h0 := hC.2.2 (p k) (hp.1 k (by omega))
    have hA1 := hA k f1
    have hb := hA1.b (hI.b hB f1)
    refine zs_aload_n (pc := 0) dX_lifetimeOf_0 rfl ?_
    refine zs_iload_n (pc := 1) dX_lifetimeOf_1 rfl ?_
    refine zcV1_1 (pc := 2) (d2 := d - 1) (s_X_existing_y hl (by omega) hx hC hp hA hI f1 f2 f3) dX_lifetimeOf_2 kX_127 mdX_existing miX_existing mvX_existing rfl (by first | exact hx | exact h0.1) rfl (Nat.le_of_ble_eq_true rfl) (by omega) (by omega) (by omega) ?_
    refine zcV1_0 (pc := 5) (d2 := d - 1) (s_E_lifetime hl hb h0.1) dX_lifetimeOf_5 kX_140 mdE_lifetime miE_lifetime mvE_lifetime rfl (by first | exact hx | exact h0.1) rfl (Nat.le_of_ble_eq_true rfl) (by omega) (by omega) (by omega) ?_
    rw [hA1.life]
    exact zs_iret (pc := 8) dX_lifetimeOf_8 rfl rfl (by omega) (by omega) (⟨zOut.y, zfr.rf, hX9⟩)
  | false =>
    rw [if_neg (by decide)]
    refine zs_aload_n (pc := 0) dX_lifetimeOf_0 rfl ?_
    refine zs_iload_n (pc := 1) dX_lifetimeOf_1 rfl ?_
    refine zcVT_1 (pc := 2) (d2 := d - 1) (s_X_existing_n hl (by omega) hx hC hp hA hI hH) dX_lifetimeOf_2 kX_127 mdX_existing miX_existing mvX_existing rfl (by first | exact hx | exact h0.1) rfl (Nat.le_of_ble_eq_true rfl) (by omega) (by omega) (by omega) rfl (fun n2 hn2 => ?_)
    exact ⟨zOut.n rfl hn2, zfr.rf, hX9⟩
theorem s_X_daysUntilFaded {Γ : zG} {l : Launch} (hl : l.stackTraces = false) {d : Nat} (hd : 3 ≤ d) {h : zH} {n : Nat} {B x c np : Nat} {g T : Nat → Nat} {P : Nat → Nat → Nat} {sv : Option (Nat → Nat)} {er fl : Option Nat} {L : List Nat} (hX : XR B h x g P c sv er fl T np L) (hB : B < 2 ^ 20) (y : Int32) : zC Γ l d mX_daysUntilFaded [.ref x, .int y] h n 1 6 (zXq x h n ["", sNS] (aLeft g y) (fun h1 => XR B h1 x g P c sv er fl T np L)) := by
  have hX9 := hX
  obtain ⟨⟨st, hst, hx, htr⟩, ⟨p, Q, hC, hp, hA⟩, hI, -⟩ := hX
  have i0 := hI.1
  unfold aLeft
  refine zC_of (ls := [some (.ref x), some (.int y)]) hl (by decide +kernel) rfl (Nat.le_of_ble_eq_true rfl) rfl ?_
  cases hH : zHas g y with
  | true =>
    rw [if_pos rfl]
    obtain ⟨f1, f2, f3⟩ := zHas_y hH
    generalize zAt g y = k at f1 f2 f3 ⊢
    have h0 := hC.2.2 (p k) (hp.1 k (by omega))
    have hA1 := hA k f1
    have hb := hA1.b (hI.b hB f1)
    refine zs_aload_n (pc := 0) dX_daysUntilFaded_0 rfl ?_
    refine zs_iload_n (pc := 1) dX_daysUntilFaded_1 rfl ?_
    refine zcV1_1 (pc := 2) (d2 := d - 1) (s_X_existing_y hl (by omega) hx hC hp hA hI f1 f2 f3) dX_daysUntilFaded_2 kX_127 mdX_existing miX_existing mvX_existing rfl (by first | exact hx | exact h0.1) rfl (Nat.le_of_ble_eq_true rfl) (by omega) (by omega) (by omega) ?_
    refine zcV1_0 (pc := 5) (d2 := d - 1) (s_E_daysLeft hl (by omega) hb (by rw [hA1 2 (by omega), hA1.life]; exact (hI.w f1).2) h0.1) dX_daysUntilFaded_5 kX_242 mdE_daysLeft miE_daysLeft mvE_daysLeft rfl (by first | exact hx | exact h0.1) rfl (Nat.le_of_ble_eq_true rfl) (by omega) (by omega) (by omega) ?_
    rw [hA1 2 (by omega), hA1.life]
    exact zs_iret (pc := 8) dX_daysUntilFaded_8 rfl rfl (by omega) (by omega) (⟨zOut.y, zfr.rf, hX9⟩)
  | false =>
    rw [if_neg (by decide)]
    refine zs_aload_n (pc := 0) dX_daysUntilFaded_0 rfl ?_
    refine zs_iload_n (pc := 1) dX_daysUntilFaded_1 rfl ?_
    refine zcVT_1 (pc := 2) (d2 := d - 1) (s_X_existing_n hl (by omega) hx hC hp hA hI hH) dX_daysUntilFaded_2 kX_127 mdX_existing miX_existing mvX_existing rfl (by first | exact hx | exact h0.1) rfl (Nat.le_of_ble_eq_true rfl) (by omega) (by omega) (by omega) rfl (fun n2 hn2 => ?_)
    exact ⟨zOut.n rfl hn2, zfr.rf, hX9⟩

