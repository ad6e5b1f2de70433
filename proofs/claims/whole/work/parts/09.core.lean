/-! the light layer: a method's walk over an abstract heap (cells by address), out of the kit's rows -/
abbrev zE : Type := (Nat × vp_A) ⊕ (Nat × List Value)
abbrev zH : Type := Nat → Option zE
abbrev zG : Type := Nat × va_G × (Nat → ClassId) × ((Nat → Nat) × (Nat → Nat)) × (Nat × Nat × (Nat → Int32))
abbrev zgB (Γ : zG) : Nat := Γ.1
abbrev zgD (Γ : zG) : va_G := Γ.2.1
abbrev zgA (Γ : zG) : Nat → ClassId := Γ.2.2.1
abbrev zgK (Γ : zG) : Nat → Nat := Γ.2.2.2.1.1
abbrev zgV (Γ : zG) : Nat → Nat := Γ.2.2.2.1.2
abbrev zgS (Γ : zG) : Nat := Γ.2.2.2.2.1
abbrev zgL (Γ : zG) : Nat := Γ.2.2.2.2.2.1
abbrev zgX (Γ : zG) : Nat → Int32 := Γ.2.2.2.2.2.2
def zcv (Γ : zG) (e : zE) : va_E := match e with
  | .inl (k, a) => .inl (zgA Γ k, a)
  | .inr o => .inr o
def zSp (Γ : zG) : Nat → Prop := fun q => zgB Γ ≤ q
def zRel (Γ : zG) (h : zH) (n : Nat) (H : Heap) : Prop := H.size = n ∧ ∀ (q : Nat) (e : zE), h q = some e → zgB Γ ≤ q ∧ va_at (zgD Γ) zCl (q, zcv Γ e) H
def zTy : Nat → FieldType := fun k => match k with
  | 0 => .int
  | 1 => .char
  | 2 => .object "PrefixCodeIndex$Entry"
  | 3 => .object "PrefixCodeIndex$Contents"
  | 4 => .long
  | _ => .double
def zTys (Γ : zG) : List (ClassId × FieldType) := [(zgA Γ 0, zTy 0), (zgA Γ 1, zTy 1), (zgA Γ 2, zTy 2), (zgA Γ 3, zTy 3), (zgA Γ 4, zTy 4), (zgA Γ 5, zTy 5)]
/-- words that not every warming keeps by the common law, but each by a law of its own -/
def zOdd (w : Cond) : Bool := match w with
  | .declares _ => true
  | .castable _ _ => true
  | .methodLinkNest _ _ _ _ => true
  | .arrayOver (.object _) => true
  | _ => false
theorem zOdd_warm {w : Cond} (h : zOdd w = true) {s U : State} (hW : s.WarmedH U.vm) (hZ : va_Nw w s) : va_Nw w U := by
  unfold zOdd at h
  split at h
  · exact va_Nw.warmD hW hZ
  · exact va_Nw.warmC hW hZ
  · exact va_Nw.warmM hW hZ
  · exact va_AO.moved hW.alike hZ
  · cases h
/-- the texts of the exceptions, by their places in the class's pool -/
def zTexts : List (Nat × String) := [(392, "no such prefix"), (218, "the code is out of range"), (95, "no such entry"), (102, "an argument is out of range"), (107, "no such segment"), (112, "the index does not allow this"), (118, "no such position"), (191, "no such rank"), (202, "nothing can continue a whole code"), (226, "no greater code"), (231, "no entry has a code"), (237, "no other entry"), (253, "the number of days is out of range"), (269, "no entries"), (272, "no entry has been added"), (327, "no such character"), (333, "not a printable character"), (336, "the buffer is full"), (346, "the program is malformed"), (354, "a command failed"), (368, "no program was malformed"), (370, "no command failed"), (373, "no change can be undone"), (380, "no saved copy")]
/-- the words of the commands -/
def zWords : List (Nat × String × List Int32) := [(79, "entry", [101, 110, 116, 114, 121]), (81, "code", [99, 111, 100, 101]), (83, "uncode", [117, 110, 99, 111, 100, 101]), (85, "drop", [100, 114, 111, 112]), (87, "touch", [116, 111, 117, 99, 104]), (89, "merge", [109, 101, 114, 103, 101]), (91, "segment", [115, 101, 103, 109, 101, 110, 116]), (93, "join", [106, 111, 105, 110]), (95, "find", [102, 105, 110, 100]), (97, "days", [100, 97, 121, 115])]
def zWp : String := "PrefixCodeIndex$Program"
def zWi (i : Nat) : Nat := (zWords.getD i (0, "", [])).1
def zWt (i : Nat) : String := (zWords.getD i (0, "", [])).2.1
def zWb : List (List Int32) := zWords.map (fun q => q.2.2)
def zWl : List Nat := zWords.map (fun q => q.2.2.length)
def zStr (Γ : zG) (s : State) : Prop := (∀ i : Nat, i < 10 → vk_R zWp (zWi i) (zWt i) (zgK Γ i) s) ∧ vk_S 10 zWl zWb (zgK Γ) (zgV Γ) (zSp Γ) s s.heap ∧ va_Z "java/lang/String" "COMPACT_STRINGS" "Z" (.int 1) (zSp Γ) s s.heap ∧ va_Zq "jdk/internal/util/Preconditions" "SIOOBE_FORMATTER" "Ljava/util/function/BiFunction;" (zSp Γ) s s.heap
/-- exceptions that a handler lets pass -/
def zNcL : List (String × String) := (["java/util/NoSuchElementException", "java/lang/IllegalArgumentException", "java/lang/IllegalStateException", "java/lang/IndexOutOfBoundsException", "java/lang/ArithmeticException"].flatMap fun a => ["java/util/NoSuchElementException", "java/lang/IllegalArgumentException", "java/lang/IllegalStateException", "java/lang/IndexOutOfBoundsException", "java/lang/ArithmeticException"].map fun b => (a, b)).filter fun q => !(q.1 == q.2)
def zEnv (Γ : zG) (s : State) : Prop := va_K (zgD Γ) zCl (zTys Γ) s ∧ (∀ w ∈ lw_tbl, zOdd w = true → va_Nw w s) ∧ (∀ t ∈ zTexts, ∃ sa, vk_R "PrefixCodeIndex" t.1 t.2 sa s) ∧ vx_Zq Bundle.tN "UNASSIGNED_STACK" Bundle.steD (zSp Γ) s s.heap ∧ vx_Zq Bundle.tN "SUPPRESSED_SENTINEL" Bundle.listD (zSp Γ) s s.heap ∧ (∀ q ∈ zNcL, va_Nc q.1 q.2 s) ∧ zStr Γ s ∧ va_X (zgS Γ) (zgL Γ) (zgX Γ) s s.heap ∧ zgS Γ < zgB Γ ∧ zgS Γ < s.heap.size
theorem zEnv.to {Γ : zG} {s t : State} (h : zEnv Γ s) (hW : s.WarmedH t.vm) (hz : s.heap.size ≤ t.heap.size) (hq : ∀ a : Nat, a < s.heap.size → ¬ zSp Γ a → t.heap[a]? = s.heap[a]?) : zEnv Γ t := by
  obtain ⟨h1, h2, h3, h4, h5, h6, ⟨g1, g2, g3, g4⟩, h8, h9, h10⟩ := h
  refine ⟨va_K.moved hW.alike h1, fun w hw ho => zOdd_warm ho hW (h2 w hw ho), fun q hq9 => ?_, vx_Zq.moved hW.alike (h4.kept hq), vx_Zq.moved hW.alike (h5.kept hq), fun q hq9 => va_Nc.moved hW.alike (h6 q hq9), ⟨fun i hi => vk_R.warm hW (g1 i hi), vk_S.moved hW.alike (g2.kept hq), va_Z.moved hW.alike (g3.kept hq), va_Zq.moved hW.alike (g4.kept hq)⟩, va_X.moved hW.alike (h8.kept (hq _ h10 (fun q => Nat.not_le.mpr h9 q))), h9, Nat.lt_of_lt_of_le h10 hz⟩
  obtain ⟨sa, hsa⟩ := h3 q hq9
  exact ⟨sa, vk_R.warm hW hsa⟩
/-! the locals by their places -/
def zSlot (x : Slot) : Option Value := match x with
  | .val v => some v
  | _ => none
def zLs (nL : Nat) (lsA : Array Slot) (ls : List (Option Value)) : Prop := lsA.size = nL ∧ lv_wf lsA ∧ ∀ (i : Nat) (v : Value), ls[i]? = some (some v) → lsA[i]? = some (.val v)
def zclr (ls : List (Option Value)) (i : Nat) : List (Option Value) := match i with
  | 0 => ls
  | j + 1 => match ls[j]? with
    | some (some v) => if v.category = 2 then ls.set j none else ls
    | _ => ls
def zset1 (ls : List (Option Value)) (i : Nat) (v : Value) : List (Option Value) := (zclr ls i).set i (some v)
def zset2 (ls : List (Option Value)) (i : Nat) (v : Value) : List (Option Value) := ((zclr ls i).set i (some v)).set (i + 1) none
def zas (ls : List (Option Value)) : List (Nat × Value) := (List.range ls.length).filterMap fun i => match ls[i]? with
  | some (some v) => some (i, v)
  | _ => none
theorem zas_in {ls : List (Option Value)} {q : Nat × Value} : q ∈ zas ls ↔ ls[q.1]? = some (some q.2) := by
  unfold zas
  rw [List.mem_filterMap]
  constructor
  · rintro ⟨i, -, hi⟩
    split at hi
    · rename_i v hv
      cases hi
      exact hv
    · cases hi
  · intro h
    refine ⟨q.1, List.mem_range.mpr (List.getElem?_eq_some_iff.mp h).1, ?_⟩
    rw [h]
theorem zas_mem {ls : List (Option Value)} {i : Nat} {v : Value} (h : ls[i]? = some (some v)) : ∃ k : Nat, (zas ls)[k]? = some (i, v) := List.getElem?_of_mem (zas_in.mpr h)
theorem zLs.has {nL : Nat} {lsA : Array Slot} {ls : List (Option Value)} (h : zLs nL lsA ls) : lv_has lsA nL (zas ls) := ⟨h.1, h.2.1, fun q hq => h.2.2 q.1 q.2 (zas_in.mp hq)⟩
theorem zclr_in {ls : List (Option Value)} {i j : Nat} {w : Value} (h : (zclr ls i)[j]? = some (some w)) : ls[j]? = some (some w) ∧ ¬ (j + 1 = i ∧ w.category = 2) := by
  unfold zclr at h
  cases i with
  | zero => exact ⟨h, fun q => by omega⟩
  | succ i =>
    simp only at h
    split at h
    · rename_i v hv
      split at h
      · rename_i hc
        by_cases hj : i = j
        · subst hj
          rw [List.getElem?_set_self (List.getElem?_eq_some_iff.mp hv).1] at h
          cases h
        · rw [List.getElem?_set_ne hj] at h
          exact ⟨h, fun q => hj (by omega)⟩
      · rename_i hc
        refine ⟨h, fun q => ?_⟩
        have e : j = i := by omega
        subst e
        rw [h] at hv
        cases hv
        exact hc q.2
    · rename_i hv
      refine ⟨h, fun q => ?_⟩
      have e : j = i := by omega
      subst e
      exact hv _ h
theorem zLs.set1 {nL : Nat} {lsA lsB : Array Slot} {ls : List (Option Value)} {i : Nat} {v : Value} (_ : zLs nL lsA ls) (_ : v.category = 1) (h : lv_has lsB nL ((i, v) :: (zas ls).filter (fun q => !(q.1 == i) && !(q.1 + 1 == i && q.2.category == 2)))) : zLs nL lsB (zset1 ls i v) := by
  refine ⟨h.1, h.2.1, fun j w hj => ?_⟩
  unfold zset1 at hj
  by_cases e : i = j
  · subst e
    have hl : i < (zclr ls i).length := by
      have := (List.getElem?_eq_some_iff.mp hj).1
      rwa [List.length_set] at this
    rw [List.getElem?_set_self hl] at hj
    cases hj
    exact h.2.2 (i, v) List.mem_cons_self
  · rw [List.getElem?_set_ne e] at hj
    obtain ⟨h1, h2⟩ := zclr_in hj
    refine h.2.2 (j, w) (List.mem_cons_of_mem _ (List.mem_filter.mpr ⟨zas_in.mpr h1, ?_⟩))
    simp only [Bool.and_eq_true, Bool.not_eq_true', beq_eq_false_iff_ne, ne_eq, Bool.and_eq_false_iff]
    refine ⟨fun q => e q.symm, ?_⟩
    by_cases g : j + 1 = i
    · exact Or.inr (fun q => h2 ⟨g, q⟩)
    · exact Or.inl g
theorem zLs.set2 {nL : Nat} {lsA lsB : Array Slot} {ls : List (Option Value)} {i : Nat} {v : Value} (_ : zLs nL lsA ls) (_ : v.category = 2) (h : lv_has lsB nL ((i, v) :: (zas ls).filter (fun q => !(q.1 == i) && (!(q.1 == i + 1) && !(q.1 + 1 == i && q.2.category == 2))))) : zLs nL lsB (zset2 ls i v) := by
  refine ⟨h.1, h.2.1, fun j w hj => ?_⟩
  unfold zset2 at hj
  by_cases e1 : i + 1 = j
  · subst e1
    have hl : i + 1 < ((zclr ls i).set i (some v)).length := by
      have := (List.getElem?_eq_some_iff.mp hj).1
      rwa [List.length_set] at this
    rw [List.getElem?_set_self hl] at hj
    cases hj
  · rw [List.getElem?_set_ne e1] at hj
    by_cases e : i = j
    · subst e
      have hl : i < (zclr ls i).length := by
        have := (List.getElem?_eq_some_iff.mp hj).1
        rwa [List.length_set] at this
      rw [List.getElem?_set_self hl] at hj
      cases hj
      exact h.2.2 (i, v) List.mem_cons_self
    · rw [List.getElem?_set_ne e] at hj
      obtain ⟨h1, h2⟩ := zclr_in hj
      refine h.2.2 (j, w) (List.mem_cons_of_mem _ (List.mem_filter.mpr ⟨zas_in.mpr h1, ?_⟩))
      simp only [Bool.and_eq_true, Bool.not_eq_true', beq_eq_false_iff_ne, ne_eq, Bool.and_eq_false_iff]
      refine ⟨fun q => e q.symm, fun q => e1 q.symm, ?_⟩
      by_cases g : j + 1 = i
      · exact Or.inr (fun q => h2 ⟨g, q⟩)
      · exact Or.inl g
def zargs (n : Nat) (vs : List Value) : List (Option Value) := (lg_sl vs ++ List.replicate (n - (lg_sl vs).length) Slot.unset).map zSlot
theorem zLs.args {vs : List Value} {n : Nat} (h : (lg_sl vs).length ≤ n) : zLs n ((lg_sl vs ++ List.replicate (n - (lg_sl vs).length) Slot.unset).toArray) (zargs n vs) := by
  have hl := lv_entry vs h
  refine ⟨hl.1, hl.2.1, fun i v hi => ?_⟩
  unfold zargs at hi
  rw [List.getElem?_map] at hi
  cases hx : (lg_sl vs ++ List.replicate (n - (lg_sl vs).length) Slot.unset)[i]? with
  | none => rw [hx] at hi; cases hi
  | some x =>
    rw [hx] at hi
    have h1 : zSlot x = some v := Option.some.inj hi
    have h2 : x = .val v := by
      unfold zSlot at h1
      split at h1
      · rename_i w
        exact congrArg Slot.val (Option.some.inj h1)
      · cases h1
    rw [List.getElem?_toArray, hx, h2]
/-! the walk -/
def zB (Γ : zG) (l : Launch) (M : zM) (d mc ms : Nat) (p : Program) (R : Room) (s : State) (m : MethodId) (args : Array Value) (meth : Method) (c : Code) : Prop :=
  p.tables.exec = Jvm.exec ∧ c.code = zby M ∧ c.maxLocals = zml M ∧ meth.sig.returnType = zrt M ∧ s.vm.findClass (zy M).cls = some m.cls ∧ (∀ w ∈ lw_tbl, goodWord w = true → w.before args s = true) ∧ meth.locks = false ∧ meth.name = (zy M).name ∧ c.exceptionTable.toList = tableOf (zxt M) ∧ l.stackTraces = false ∧ zEnv Γ s ∧ zgB Γ ≤ s.heap.size ∧ d + 8 ≤ R.frames ∧ 40 * d + 200 ≤ R.locals ∧ mc ≤ R.cells ∧ ms ≤ R.slots
def Z (Γ : zG) (l : Launch) (M : zM) (d mc ms : Nat) (FN : List Frame → Array Value → State → State → Prop) (pc : Nat) (ls : List (Option Value)) (st : List Value) (h : zH) (n k ks : Nat) : Prop :=
  ∀ (p : Program) (e : Env) (R : Room) (s : State) (m : MethodId) (args : Array Value) (below : List Frame) (meth : Method) (c : Code) (lsA : Array Slot) (H : Heap) (locs : List Loc), zB Γ l M d mc ms p R s m args meth c → zLs (zml M) lsA ls → zRel Γ h n H → va_S (zSp Γ) s.heap H locs → W p l e R s m args below meth c H locs k ks (FN below args s) (F0 m pc lsA st)
/-- .. where an exception of class E flies -/
def zX (Γ : zG) (l : Launch) (M : zM) (d mc ms : Nat) (FN : List Frame → Array Value → State → State → Prop) (pc : Nat) (ls : List (Option Value)) (E : String) (h : zH) (n k ks : Nat) : Prop :=
  ∀ (p : Program) (e : Env) (R : Room) (s : State) (m : MethodId) (args : Array Value) (below : List Frame) (meth : Method) (c : Code) (lsA : Array Slot) (H : Heap) (locs : List Loc), zB Γ l M d mc ms p R s m args meth c → zLs (zml M) lsA ls → zRel Γ h n H → va_S (zSp Γ) s.heap H locs → ∀ (ce : Cell) (q9 : Nat) (rest : List Value), H[q9]? = some ce → ce.vm = .none → s.vm.findClass E = some ce.cls → vx_W p l e R s m args below meth c H locs k ks (FN below args s) (F0 m pc lsA rest) q9
abbrev zQ : Type := (Option Value ⊕ String) → zH → Nat → Prop
def zPost (Γ : zG) (Q : zQ) : Array Value → State → Outcome → State → Prop := fun _ st o t => (∃ (v : Option Value) (h : zH) (n : Nat), o = .returned v ∧ Q (.inl v) h n ∧ zRel Γ h n t.heap) ∧ va_F (zSp Γ) st t
def zPostX (Γ : zG) (Q : zQ) : String → State → State → Prop := fun E st t => (∃ (h : zH) (n : Nat), Q (.inr E) h n ∧ zRel Γ h n t.heap) ∧ va_F (zSp Γ) st t
def zPre (Γ : zG) (av : List Value) (h : zH) (n : Nat) : Array Value → State → Prop := va_Pc av (fun U => zRel Γ h n U.heap ∧ zEnv Γ U ∧ zgB Γ ≤ U.heap.size)
def zFin (Γ : zG) (Q : zQ) (mc ms : Nat) : List Frame → Array Value → State → State → Prop := fun below args s => vx_MQ below (zPost Γ Q) (zPostX Γ Q) args s mc ms (zSp Γ)
def zall : List Cond := lw_tbl.filter goodWord
def zrm (d mc ms : Nat) : Room := { frames := d + 8, cells := mc, slots := ms, locals := 40 * d + 200 }
/-- a method's contract: called with these arguments over this heap, it ends, and Q holds of its answer, the heap and its size -/
def zC (Γ : zG) (l : Launch) (d : Nat) (M : zM) (av : List Value) (h : zH) (n mc ms : Nat) (Q : zQ) : Prop := vx_Met l (zy M) (zcw M :: zall) (zrm d mc ms) (zPre Γ av h n) (zPost Γ Q) (zPostX Γ Q) mc ms (zSp Γ)
theorem zcw_good (M : zM) : goodWord (zcw M) = true := by
  unfold zcw
  split <;> rfl
theorem zC_of {Γ : zG} {l : Launch} {d : Nat} {M : zM} {av : List Value} {h : zH} {n mc ms : Nat} {Q : zQ} {ls : List (Option Value)} (hl : l.stackTraces = false) (hp : plainName (zy M).cls = true) (hxt : zxt M = []) (hlen : (lg_sl av).length ≤ zml M) (hls : zargs (zml M) av = ls)
    (K : Z Γ l M d mc ms (zFin Γ Q mc ms) 0 ls [] h n 0 0) : zC Γ l d M av h n mc ms Q := by
  refine vx_ofW (cc := zby M) (maxL := zml M) (ret := zrt M) hp (by unfold zcw; rw [hxt]) ?_
  intro p e s m args below meth c s₁ B hml hnt hv
  obtain ⟨rfl, hRel, hEnv, hbs⟩ := hv
  have hts := atoms_spec (ws := zcw M :: zall) B.pre
  rw [lg_entry_eq]
  subst hls
  refine K p e _ s m _ below meth c _ s.heap [] ⟨B.exec, B.bytes, hml, B.returns, findClass_of_methodNamed B.named, fun w h1 h2 => hts w (List.mem_cons_of_mem _ (List.mem_filter.mpr ⟨h1, h2⟩)), B.notSynchronized, (name_of_methodNamed B.named B.method).1, ?_, hl, hEnv, hbs, Nat.le_refl _, Nat.le_refl _, Nat.le_refl _, Nat.le_refl _⟩ (zLs.args hlen) hRel va_S.rf
  rw [hxt]
  cases hq : c.exceptionTable.toList with
  | nil => rfl
  | cons x xs => exact (hnt x (by rw [hq]; exact List.mem_cons_self)).elim
theorem zC_ofX {Γ : zG} {l : Launch} {d : Nat} {M : zM} {av : List Value} {h : zH} {n mc ms : Nat} {Q : zQ} {ls : List (Option Value)} (hl : l.stackTraces = false) (hp : plainName (zy M).cls = true) (hxt : zxt M ≠ []) (hlen : (lg_sl av).length ≤ zml M) (hls : zargs (zml M) av = ls)
    (K : Z Γ l M d mc ms (zFin Γ Q mc ms) 0 ls [] h n 0 0) : zC Γ l d M av h n mc ms Q := by
  have hcw : zcw M = Cond.codeWith (zy M) (zby M) (zml M) (zrt M) (zxt M) := by
    unfold zcw
    split
    · rename_i h9; exact absurd h9 hxt
    · rfl
  refine vx_ofWH (cc := zby M) (maxL := zml M) (ret := zrt M) (hh := zxt M) hp (by rw [hcw]) ?_
  intro p e s m args below meth c s₁ B hml hv
  obtain ⟨rfl, hRel, hEnv, hbs⟩ := hv
  have hts := atoms_spec (ws := zcw M :: zall) B.pre
  rw [lg_entry_eq]
  subst hls
  refine K p e _ s m _ below meth c _ s.heap [] ⟨B.exec, B.bytes, hml, B.returns, findClass_of_methodNamed B.named, fun w h1 h2 => hts w (List.mem_cons_of_mem _ (List.mem_filter.mpr ⟨h1, h2⟩)), B.notSynchronized, (name_of_methodNamed B.named B.method).1, ?_, hl, hEnv, hbs, Nat.le_refl _, Nat.le_refl _, Nat.le_refl _, Nat.le_refl _⟩ (zLs.args hlen) hRel va_S.rf
  have h1 := hts _ List.mem_cons_self
  rw [hcw] at h1
  exact vx_table (x := zy M) B h1
theorem zs_iconst {Γ : zG} {l : Launch} {M : zM} {d mc ms : Nat} {FN : List Frame → Array Value → State → State → Prop} {pc : Nat} {ls : List (Option Value)} {st : List Value} {h : zH} {n k ks : Nat} {v : Int32} {i : Int} (hd : decode (zby M) pc = .ok (.iconst i, 1)) (hv : Int32.ofInt i = v) (K : Z Γ l M d mc ms FN (pc + 1) ls (.int v :: st) h n k ks) : Z Γ l M d mc ms FN pc ls st h n k ks := fun p e R s m args below meth c lsA H locs B L P S => by
  obtain ⟨hx, hb, hml, hr, hown, hts, hlocks, hin, hxt, htr, hE, hbs, hR1, hR2, hR3, hR4⟩ := id B
  exact lv_iconst hx hb hd hv (K p e R s m args below meth c lsA H locs B L P S)
theorem zs_bipush {Γ : zG} {l : Launch} {M : zM} {d mc ms : Nat} {FN : List Frame → Array Value → State → State → Prop} {pc : Nat} {ls : List (Option Value)} {st : List Value} {h : zH} {n k ks : Nat} {v : Int32} {i : Int} (hd : decode (zby M) pc = .ok (.bipush i, 2)) (hv : (Int8.ofInt i).toInt32 = v) (K : Z Γ l M d mc ms FN (pc + 2) ls (.int v :: st) h n k ks) : Z Γ l M d mc ms FN pc ls st h n k ks := fun p e R s m args below meth c lsA H locs B L P S => by
  obtain ⟨hx, hb, hml, hr, hown, hts, hlocks, hin, hxt, htr, hE, hbs, hR1, hR2, hR3, hR4⟩ := id B
  exact lv_bipush hx hb hd hv (K p e R s m args below meth c lsA H locs B L P S)
theorem zs_sipush {Γ : zG} {l : Launch} {M : zM} {d mc ms : Nat} {FN : List Frame → Array Value → State → State → Prop} {pc : Nat} {ls : List (Option Value)} {st : List Value} {h : zH} {n k ks : Nat} {v : Int32} {i : Int} (hd : decode (zby M) pc = .ok (.sipush i, 3)) (hv : (Int16.ofInt i).toInt32 = v) (K : Z Γ l M d mc ms FN (pc + 3) ls (.int v :: st) h n k ks) : Z Γ l M d mc ms FN pc ls st h n k ks := fun p e R s m args below meth c lsA H locs B L P S => by
  obtain ⟨hx, hb, hml, hr, hown, hts, hlocks, hin, hxt, htr, hE, hbs, hR1, hR2, hR3, hR4⟩ := id B
  exact lv_sipush hx hb hd hv (K p e R s m args below meth c lsA H locs B L P S)
theorem zs_lconst {Γ : zG} {l : Launch} {M : zM} {d mc ms : Nat} {FN : List Frame → Array Value → State → State → Prop} {pc : Nat} {ls : List (Option Value)} {st : List Value} {h : zH} {n k ks : Nat} {v : Int64} {i : Fin 2} (hd : decode (zby M) pc = .ok (.lconst i, 1)) (hv : Int64.ofNat (i : Nat) = v) (K : Z Γ l M d mc ms FN (pc + 1) ls (.long v :: st) h n k ks) : Z Γ l M d mc ms FN pc ls st h n k ks := fun p e R s m args below meth c lsA H locs B L P S => by
  obtain ⟨hx, hb, hml, hr, hown, hts, hlocks, hin, hxt, htr, hE, hbs, hR1, hR2, hR3, hR4⟩ := id B
  exact lv_lconst hx hb hd hv (K p e R s m args below meth c lsA H locs B L P S)
theorem zs_ldc2 {Γ : zG} {l : Launch} {M : zM} {d mc ms : Nat} {FN : List Frame → Array Value → State → State → Prop} {pc : Nat} {ls : List (Option Value)} {st : List Value} {h : zH} {n k ks : Nat} {v : Int64} {i : Nat} (hd : decode (zby M) pc = .ok (.ldc2_w i, 3)) (hv : Cond.constantLong (zy M).cls i v ∈ lw_tbl) (K : Z Γ l M d mc ms FN (pc + 3) ls (.long v :: st) h n k ks) : Z Γ l M d mc ms FN pc ls st h n k ks := fun p e R s m args below meth c lsA H locs B L P S => by
  obtain ⟨hx, hb, hml, hr, hown, hts, hlocks, hin, hxt, htr, hE, hbs, hR1, hR2, hR3, hR4⟩ := id B
  exact lv_ldc2 hx hb hown (hts _ hv rfl) hd (K p e R s m args below meth c lsA H locs B L P S)
theorem zs_fconst0 {Γ : zG} {l : Launch} {M : zM} {d mc ms : Nat} {FN : List Frame → Array Value → State → State → Prop} {pc : Nat} {ls : List (Option Value)} {st : List Value} {h : zH} {n k ks : Nat}  (hd : decode (zby M) pc = .ok (.fconst 0, 1))  (K : Z Γ l M d mc ms FN (pc + 1) ls (.float FP.fconst0 :: st) h n k ks) : Z Γ l M d mc ms FN pc ls st h n k ks := fun p e R s m args below meth c lsA H locs B L P S => by
  obtain ⟨hx, hb, hml, hr, hown, hts, hlocks, hin, hxt, htr, hE, hbs, hR1, hR2, hR3, hR4⟩ := id B
  exact lv_fconst0 hx hb hd (K p e R s m args below meth c lsA H locs B L P S)
theorem zs_dconst0 {Γ : zG} {l : Launch} {M : zM} {d mc ms : Nat} {FN : List Frame → Array Value → State → State → Prop} {pc : Nat} {ls : List (Option Value)} {st : List Value} {h : zH} {n k ks : Nat}  (hd : decode (zby M) pc = .ok (.dconst 0, 1))  (K : Z Γ l M d mc ms FN (pc + 1) ls (.double FP.dconst0 :: st) h n k ks) : Z Γ l M d mc ms FN pc ls st h n k ks := fun p e R s m args below meth c lsA H locs B L P S => by
  obtain ⟨hx, hb, hml, hr, hown, hts, hlocks, hin, hxt, htr, hE, hbs, hR1, hR2, hR3, hR4⟩ := id B
  exact lv_dconst0 hx hb hd (K p e R s m args below meth c lsA H locs B L P S)
theorem zs_null {Γ : zG} {l : Launch} {M : zM} {d mc ms : Nat} {FN : List Frame → Array Value → State → State → Prop} {pc : Nat} {ls : List (Option Value)} {st : List Value} {h : zH} {n k ks : Nat}  (hd : decode (zby M) pc = .ok (.aconst_null, 1))  (K : Z Γ l M d mc ms FN (pc + 1) ls (.null :: st) h n k ks) : Z Γ l M d mc ms FN pc ls st h n k ks := fun p e R s m args below meth c lsA H locs B L P S => by
  obtain ⟨hx, hb, hml, hr, hown, hts, hlocks, hin, hxt, htr, hE, hbs, hR1, hR2, hR3, hR4⟩ := id B
  exact lv_null hx hb hd (K p e R s m args below meth c lsA H locs B L P S)
theorem zs_iload_n {Γ : zG} {l : Launch} {M : zM} {d mc ms : Nat} {FN : List Frame → Array Value → State → State → Prop} {pc : Nat} {ls : List (Option Value)} {st : List Value} {h : zH} {n k ks : Nat} {x : Int32} {i : Fin 4} (hd : decode (zby M) pc = .ok (.iload_n i, 1)) (hl : ls[(i : Nat)]? = some (some (.int x))) (K : Z Γ l M d mc ms FN (pc + 1) ls (.int x :: st) h n k ks) : Z Γ l M d mc ms FN pc ls st h n k ks := fun p e R s m args below meth c lsA H locs B L P S => by
  obtain ⟨hx, hb, hml, hr, hown, hts, hlocks, hin, hxt, htr, hE, hbs, hR1, hR2, hR3, hR4⟩ := id B
  exact lv_iload_n hx hb hd rfl (L.2.2 _ _ hl) (K p e R s m args below meth c lsA H locs B L P S)
theorem zs_iload {Γ : zG} {l : Launch} {M : zM} {d mc ms : Nat} {FN : List Frame → Array Value → State → State → Prop} {pc : Nat} {ls : List (Option Value)} {st : List Value} {h : zH} {n k ks : Nat} {x : Int32} {i : Nat} (hd : decode (zby M) pc = .ok (.iload i, 2)) (hl : ls[i]? = some (some (.int x))) (K : Z Γ l M d mc ms FN (pc + 2) ls (.int x :: st) h n k ks) : Z Γ l M d mc ms FN pc ls st h n k ks := fun p e R s m args below meth c lsA H locs B L P S => by
  obtain ⟨hx, hb, hml, hr, hown, hts, hlocks, hin, hxt, htr, hE, hbs, hR1, hR2, hR3, hR4⟩ := id B
  exact lv_iload hx hb hd (L.2.2 _ _ hl) (K p e R s m args below meth c lsA H locs B L P S)
theorem zs_lload_n {Γ : zG} {l : Launch} {M : zM} {d mc ms : Nat} {FN : List Frame → Array Value → State → State → Prop} {pc : Nat} {ls : List (Option Value)} {st : List Value} {h : zH} {n k ks : Nat} {x : Int64} {i : Fin 4} (hd : decode (zby M) pc = .ok (.lload_n i, 1)) (hl : ls[(i : Nat)]? = some (some (.long x))) (K : Z Γ l M d mc ms FN (pc + 1) ls (.long x :: st) h n k ks) : Z Γ l M d mc ms FN pc ls st h n k ks := fun p e R s m args below meth c lsA H locs B L P S => by
  obtain ⟨hx, hb, hml, hr, hown, hts, hlocks, hin, hxt, htr, hE, hbs, hR1, hR2, hR3, hR4⟩ := id B
  exact lv_lload_n hx hb hd rfl (L.2.2 _ _ hl) (K p e R s m args below meth c lsA H locs B L P S)
theorem zs_lload {Γ : zG} {l : Launch} {M : zM} {d mc ms : Nat} {FN : List Frame → Array Value → State → State → Prop} {pc : Nat} {ls : List (Option Value)} {st : List Value} {h : zH} {n k ks : Nat} {x : Int64} {i : Nat} (hd : decode (zby M) pc = .ok (.lload i, 2)) (hl : ls[i]? = some (some (.long x))) (K : Z Γ l M d mc ms FN (pc + 2) ls (.long x :: st) h n k ks) : Z Γ l M d mc ms FN pc ls st h n k ks := fun p e R s m args below meth c lsA H locs B L P S => by
  obtain ⟨hx, hb, hml, hr, hown, hts, hlocks, hin, hxt, htr, hE, hbs, hR1, hR2, hR3, hR4⟩ := id B
  exact lv_lload hx hb hd (L.2.2 _ _ hl) (K p e R s m args below meth c lsA H locs B L P S)
theorem zs_aload_n {Γ : zG} {l : Launch} {M : zM} {d mc ms : Nat} {FN : List Frame → Array Value → State → State → Prop} {pc : Nat} {ls : List (Option Value)} {st : List Value} {h : zH} {n k ks : Nat} {x : Nat} {i : Fin 4} (hd : decode (zby M) pc = .ok (.aload_n i, 1)) (hl : ls[(i : Nat)]? = some (some (.ref x))) (K : Z Γ l M d mc ms FN (pc + 1) ls (.ref x :: st) h n k ks) : Z Γ l M d mc ms FN pc ls st h n k ks := fun p e R s m args below meth c lsA H locs B L P S => by
  obtain ⟨hx, hb, hml, hr, hown, hts, hlocks, hin, hxt, htr, hE, hbs, hR1, hR2, hR3, hR4⟩ := id B
  exact lv_aload_n hx hb hd rfl (L.2.2 _ _ hl) (K p e R s m args below meth c lsA H locs B L P S)
theorem zs_aload {Γ : zG} {l : Launch} {M : zM} {d mc ms : Nat} {FN : List Frame → Array Value → State → State → Prop} {pc : Nat} {ls : List (Option Value)} {st : List Value} {h : zH} {n k ks : Nat} {x : Nat} {i : Nat} (hd : decode (zby M) pc = .ok (.aload i, 2)) (hl : ls[i]? = some (some (.ref x))) (K : Z Γ l M d mc ms FN (pc + 2) ls (.ref x :: st) h n k ks) : Z Γ l M d mc ms FN pc ls st h n k ks := fun p e R s m args below meth c lsA H locs B L P S => by
  obtain ⟨hx, hb, hml, hr, hown, hts, hlocks, hin, hxt, htr, hE, hbs, hR1, hR2, hR3, hR4⟩ := id B
  exact lv_aload hx hb hd (L.2.2 _ _ hl) (K p e R s m args below meth c lsA H locs B L P S)
theorem zs_dload_n {Γ : zG} {l : Launch} {M : zM} {d mc ms : Nat} {FN : List Frame → Array Value → State → State → Prop} {pc : Nat} {ls : List (Option Value)} {st : List Value} {h : zH} {n k ks : Nat} {x : UInt64} {i : Fin 4} (hd : decode (zby M) pc = .ok (.dload_n i, 1)) (hl : ls[(i : Nat)]? = some (some (.double x))) (K : Z Γ l M d mc ms FN (pc + 1) ls (.double x :: st) h n k ks) : Z Γ l M d mc ms FN pc ls st h n k ks := fun p e R s m args below meth c lsA H locs B L P S => by
  obtain ⟨hx, hb, hml, hr, hown, hts, hlocks, hin, hxt, htr, hE, hbs, hR1, hR2, hR3, hR4⟩ := id B
  exact lv_dload_n hx hb hd rfl (L.2.2 _ _ hl) (K p e R s m args below meth c lsA H locs B L P S)
theorem zs_dload {Γ : zG} {l : Launch} {M : zM} {d mc ms : Nat} {FN : List Frame → Array Value → State → State → Prop} {pc : Nat} {ls : List (Option Value)} {st : List Value} {h : zH} {n k ks : Nat} {x : UInt64} {i : Nat} (hd : decode (zby M) pc = .ok (.dload i, 2)) (hl : ls[i]? = some (some (.double x))) (K : Z Γ l M d mc ms FN (pc + 2) ls (.double x :: st) h n k ks) : Z Γ l M d mc ms FN pc ls st h n k ks := fun p e R s m args below meth c lsA H locs B L P S => by
  obtain ⟨hx, hb, hml, hr, hown, hts, hlocks, hin, hxt, htr, hE, hbs, hR1, hR2, hR3, hR4⟩ := id B
  exact lv_dload hx hb hd (L.2.2 _ _ hl) (K p e R s m args below meth c lsA H locs B L P S)
theorem zs_fload_n {Γ : zG} {l : Launch} {M : zM} {d mc ms : Nat} {FN : List Frame → Array Value → State → State → Prop} {pc : Nat} {ls : List (Option Value)} {st : List Value} {h : zH} {n k ks : Nat} {x : UInt32} {i : Fin 4} (hd : decode (zby M) pc = .ok (.fload_n i, 1)) (hl : ls[(i : Nat)]? = some (some (.float x))) (K : Z Γ l M d mc ms FN (pc + 1) ls (.float x :: st) h n k ks) : Z Γ l M d mc ms FN pc ls st h n k ks := fun p e R s m args below meth c lsA H locs B L P S => by
  obtain ⟨hx, hb, hml, hr, hown, hts, hlocks, hin, hxt, htr, hE, hbs, hR1, hR2, hR3, hR4⟩ := id B
  exact lv_fload_n hx hb hd rfl (L.2.2 _ _ hl) (K p e R s m args below meth c lsA H locs B L P S)
theorem zs_fload {Γ : zG} {l : Launch} {M : zM} {d mc ms : Nat} {FN : List Frame → Array Value → State → State → Prop} {pc : Nat} {ls : List (Option Value)} {st : List Value} {h : zH} {n k ks : Nat} {x : UInt32} {i : Nat} (hd : decode (zby M) pc = .ok (.fload i, 2)) (hl : ls[i]? = some (some (.float x))) (K : Z Γ l M d mc ms FN (pc + 2) ls (.float x :: st) h n k ks) : Z Γ l M d mc ms FN pc ls st h n k ks := fun p e R s m args below meth c lsA H locs B L P S => by
  obtain ⟨hx, hb, hml, hr, hown, hts, hlocks, hin, hxt, htr, hE, hbs, hR1, hR2, hR3, hR4⟩ := id B
  exact lv_fload hx hb hd (L.2.2 _ _ hl) (K p e R s m args below meth c lsA H locs B L P S)
theorem zs_aload_nN {Γ : zG} {l : Launch} {M : zM} {d mc ms : Nat} {FN : List Frame → Array Value → State → State → Prop} {pc : Nat} {ls : List (Option Value)} {st : List Value} {h : zH} {n k ks : Nat} {i : Fin 4} (hd : decode (zby M) pc = .ok (.aload_n i, 1)) (hl : ls[(i : Nat)]? = some (some .null)) (K : Z Γ l M d mc ms FN (pc + 1) ls (.null :: st) h n k ks) : Z Γ l M d mc ms FN pc ls st h n k ks := fun p e R s m args below meth c lsA H locs B L P S => by
  obtain ⟨hx, hb, hml, hr, hown, hts, hlocks, hin, hxt, htr, hE, hbs, hR1, hR2, hR3, hR4⟩ := id B
  exact lv_aload_nN hx hb hd rfl (L.2.2 _ _ hl) (K p e R s m args below meth c lsA H locs B L P S)
theorem zs_aloadN {Γ : zG} {l : Launch} {M : zM} {d mc ms : Nat} {FN : List Frame → Array Value → State → State → Prop} {pc : Nat} {ls : List (Option Value)} {st : List Value} {h : zH} {n k ks : Nat} {i : Nat} (hd : decode (zby M) pc = .ok (.aload i, 2)) (hl : ls[i]? = some (some .null)) (K : Z Γ l M d mc ms FN (pc + 2) ls (.null :: st) h n k ks) : Z Γ l M d mc ms FN pc ls st h n k ks := fun p e R s m args below meth c lsA H locs B L P S => by
  obtain ⟨hx, hb, hml, hr, hown, hts, hlocks, hin, hxt, htr, hE, hbs, hR1, hR2, hR3, hR4⟩ := id B
  exact lv_aloadN hx hb hd (L.2.2 _ _ hl) (K p e R s m args below meth c lsA H locs B L P S)
theorem zs_istore {Γ : zG} {l : Launch} {M : zM} {d mc ms : Nat} {FN : List Frame → Array Value → State → State → Prop} {pc : Nat} {ls : List (Option Value)} {st : List Value} {h : zH} {n k ks : Nat} {x : Int32} {ls2 : List (Option Value)} {i : Nat} (hd : decode (zby M) pc = .ok (.istore i, 2)) (hn : i < zml M) (hl : zset1 ls i (.int x) = ls2) (K : Z Γ l M d mc ms FN (pc + 2) ls2 st h n k ks) : Z Γ l M d mc ms FN pc ls (.int x :: st) h n k ks := fun p e R s m args below meth c lsA H locs B L P S => by
  obtain ⟨hx, hb, hml, hr, hown, hts, hlocks, hin, hxt, htr, hE, hbs, hR1, hR2, hR3, hR4⟩ := id B
  subst hl; exact lv_istore hx hb hd (zLs.has L) hn rfl (fun lsB hl9 => K p e R s m args below meth c lsB H locs B (zLs.set1 L rfl hl9) P S)
theorem zs_istore_n {Γ : zG} {l : Launch} {M : zM} {d mc ms : Nat} {FN : List Frame → Array Value → State → State → Prop} {pc : Nat} {ls : List (Option Value)} {st : List Value} {h : zH} {n k ks : Nat} {x : Int32} {ls2 : List (Option Value)} {i : Fin 4} (hd : decode (zby M) pc = .ok (.istore_n i, 1)) (hn : (i : Nat) < zml M) (hl : zset1 ls (i : Nat) (.int x) = ls2) (K : Z Γ l M d mc ms FN (pc + 1) ls2 st h n k ks) : Z Γ l M d mc ms FN pc ls (.int x :: st) h n k ks := fun p e R s m args below meth c lsA H locs B L P S => by
  obtain ⟨hx, hb, hml, hr, hown, hts, hlocks, hin, hxt, htr, hE, hbs, hR1, hR2, hR3, hR4⟩ := id B
  subst hl; exact lv_istore_n hx hb hd rfl (zLs.has L) hn rfl (fun lsB hl9 => K p e R s m args below meth c lsB H locs B (zLs.set1 L rfl hl9) P S)
theorem zs_astore {Γ : zG} {l : Launch} {M : zM} {d mc ms : Nat} {FN : List Frame → Array Value → State → State → Prop} {pc : Nat} {ls : List (Option Value)} {st : List Value} {h : zH} {n k ks : Nat} {x : Nat} {ls2 : List (Option Value)} {i : Nat} (hd : decode (zby M) pc = .ok (.astore i, 2)) (hn : i < zml M) (hl : zset1 ls i (.ref x) = ls2) (K : Z Γ l M d mc ms FN (pc + 2) ls2 st h n k ks) : Z Γ l M d mc ms FN pc ls (.ref x :: st) h n k ks := fun p e R s m args below meth c lsA H locs B L P S => by
  obtain ⟨hx, hb, hml, hr, hown, hts, hlocks, hin, hxt, htr, hE, hbs, hR1, hR2, hR3, hR4⟩ := id B
  subst hl; exact lv_astore hx hb hd (zLs.has L) hn rfl (fun lsB hl9 => K p e R s m args below meth c lsB H locs B (zLs.set1 L rfl hl9) P S)
theorem zs_astore_n {Γ : zG} {l : Launch} {M : zM} {d mc ms : Nat} {FN : List Frame → Array Value → State → State → Prop} {pc : Nat} {ls : List (Option Value)} {st : List Value} {h : zH} {n k ks : Nat} {x : Nat} {ls2 : List (Option Value)} {i : Fin 4} (hd : decode (zby M) pc = .ok (.astore_n i, 1)) (hn : (i : Nat) < zml M) (hl : zset1 ls (i : Nat) (.ref x) = ls2) (K : Z Γ l M d mc ms FN (pc + 1) ls2 st h n k ks) : Z Γ l M d mc ms FN pc ls (.ref x :: st) h n k ks := fun p e R s m args below meth c lsA H locs B L P S => by
  obtain ⟨hx, hb, hml, hr, hown, hts, hlocks, hin, hxt, htr, hE, hbs, hR1, hR2, hR3, hR4⟩ := id B
  subst hl; exact lv_astore_n hx hb hd rfl (zLs.has L) hn rfl (fun lsB hl9 => K p e R s m args below meth c lsB H locs B (zLs.set1 L rfl hl9) P S)
theorem zs_fstore {Γ : zG} {l : Launch} {M : zM} {d mc ms : Nat} {FN : List Frame → Array Value → State → State → Prop} {pc : Nat} {ls : List (Option Value)} {st : List Value} {h : zH} {n k ks : Nat} {x : UInt32} {ls2 : List (Option Value)} {i : Nat} (hd : decode (zby M) pc = .ok (.fstore i, 2)) (hn : i < zml M) (hl : zset1 ls i (.float x) = ls2) (K : Z Γ l M d mc ms FN (pc + 2) ls2 st h n k ks) : Z Γ l M d mc ms FN pc ls (.float x :: st) h n k ks := fun p e R s m args below meth c lsA H locs B L P S => by
  obtain ⟨hx, hb, hml, hr, hown, hts, hlocks, hin, hxt, htr, hE, hbs, hR1, hR2, hR3, hR4⟩ := id B
  subst hl; exact lv_fstore hx hb hd (zLs.has L) hn rfl (fun lsB hl9 => K p e R s m args below meth c lsB H locs B (zLs.set1 L rfl hl9) P S)
theorem zs_fstore_n {Γ : zG} {l : Launch} {M : zM} {d mc ms : Nat} {FN : List Frame → Array Value → State → State → Prop} {pc : Nat} {ls : List (Option Value)} {st : List Value} {h : zH} {n k ks : Nat} {x : UInt32} {ls2 : List (Option Value)} {i : Fin 4} (hd : decode (zby M) pc = .ok (.fstore_n i, 1)) (hn : (i : Nat) < zml M) (hl : zset1 ls (i : Nat) (.float x) = ls2) (K : Z Γ l M d mc ms FN (pc + 1) ls2 st h n k ks) : Z Γ l M d mc ms FN pc ls (.float x :: st) h n k ks := fun p e R s m args below meth c lsA H locs B L P S => by
  obtain ⟨hx, hb, hml, hr, hown, hts, hlocks, hin, hxt, htr, hE, hbs, hR1, hR2, hR3, hR4⟩ := id B
  subst hl; exact lv_fstore_n hx hb hd rfl (zLs.has L) hn rfl (fun lsB hl9 => K p e R s m args below meth c lsB H locs B (zLs.set1 L rfl hl9) P S)
theorem zs_dstore {Γ : zG} {l : Launch} {M : zM} {d mc ms : Nat} {FN : List Frame → Array Value → State → State → Prop} {pc : Nat} {ls : List (Option Value)} {st : List Value} {h : zH} {n k ks : Nat} {x : UInt64} {ls2 : List (Option Value)} {i : Nat} (hd : decode (zby M) pc = .ok (.dstore i, 2)) (hn : i + 1 < zml M) (hl : zset2 ls i (.double x) = ls2) (K : Z Γ l M d mc ms FN (pc + 2) ls2 st h n k ks) : Z Γ l M d mc ms FN pc ls (.double x :: st) h n k ks := fun p e R s m args below meth c lsA H locs B L P S => by
  obtain ⟨hx, hb, hml, hr, hown, hts, hlocks, hin, hxt, htr, hE, hbs, hR1, hR2, hR3, hR4⟩ := id B
  subst hl; exact lv_dstore hx hb hd (zLs.has L) hn rfl (fun lsB hl9 => K p e R s m args below meth c lsB H locs B (zLs.set2 L rfl hl9) P S)
theorem zs_dstore_n {Γ : zG} {l : Launch} {M : zM} {d mc ms : Nat} {FN : List Frame → Array Value → State → State → Prop} {pc : Nat} {ls : List (Option Value)} {st : List Value} {h : zH} {n k ks : Nat} {x : UInt64} {ls2 : List (Option Value)} {i : Fin 4} (hd : decode (zby M) pc = .ok (.dstore_n i, 1)) (hn : (i : Nat) + 1 < zml M) (hl : zset2 ls (i : Nat) (.double x) = ls2) (K : Z Γ l M d mc ms FN (pc + 1) ls2 st h n k ks) : Z Γ l M d mc ms FN pc ls (.double x :: st) h n k ks := fun p e R s m args below meth c lsA H locs B L P S => by
  obtain ⟨hx, hb, hml, hr, hown, hts, hlocks, hin, hxt, htr, hE, hbs, hR1, hR2, hR3, hR4⟩ := id B
  subst hl; exact lv_dstore_n hx hb hd rfl (zLs.has L) hn rfl (fun lsB hl9 => K p e R s m args below meth c lsB H locs B (zLs.set2 L rfl hl9) P S)
theorem zs_astoreN {Γ : zG} {l : Launch} {M : zM} {d mc ms : Nat} {FN : List Frame → Array Value → State → State → Prop} {pc : Nat} {ls : List (Option Value)} {st : List Value} {h : zH} {n k ks : Nat} {ls2 : List (Option Value)} {i : Nat} (hd : decode (zby M) pc = .ok (.astore i, 2)) (hn : i < zml M) (hl : zset1 ls i .null = ls2) (K : Z Γ l M d mc ms FN (pc + 2) ls2 st h n k ks) : Z Γ l M d mc ms FN pc ls (.null :: st) h n k ks := fun p e R s m args below meth c lsA H locs B L P S => by
  obtain ⟨hx, hb, hml, hr, hown, hts, hlocks, hin, hxt, htr, hE, hbs, hR1, hR2, hR3, hR4⟩ := id B
  subst hl; exact lv_astoreN hx hb hd (zLs.has L) hn rfl (fun lsB hl9 => K p e R s m args below meth c lsB H locs B (zLs.set1 L rfl hl9) P S)
theorem zs_astore_nN {Γ : zG} {l : Launch} {M : zM} {d mc ms : Nat} {FN : List Frame → Array Value → State → State → Prop} {pc : Nat} {ls : List (Option Value)} {st : List Value} {h : zH} {n k ks : Nat} {ls2 : List (Option Value)} {i : Fin 4} (hd : decode (zby M) pc = .ok (.astore_n i, 1)) (hn : (i : Nat) < zml M) (hl : zset1 ls (i : Nat) .null = ls2) (K : Z Γ l M d mc ms FN (pc + 1) ls2 st h n k ks) : Z Γ l M d mc ms FN pc ls (.null :: st) h n k ks := fun p e R s m args below meth c lsA H locs B L P S => by
  obtain ⟨hx, hb, hml, hr, hown, hts, hlocks, hin, hxt, htr, hE, hbs, hR1, hR2, hR3, hR4⟩ := id B
  subst hl; exact lv_astore_nN hx hb hd rfl (zLs.has L) hn rfl (fun lsB hl9 => K p e R s m args below meth c lsB H locs B (zLs.set1 L rfl hl9) P S)
theorem zs_iinc {Γ : zG} {l : Launch} {M : zM} {d mc ms : Nat} {FN : List Frame → Array Value → State → State → Prop} {pc : Nat} {ls : List (Option Value)} {st : List Value} {h : zH} {n k ks : Nat} {i : Nat} {j : Int} {x v : Int32} {ls2 : List (Option Value)} (hd : decode (zby M) pc = .ok (.iinc i j, 3)) (hi : ls[i]? = some (some (.int x))) (hv : x + Int32.ofInt j = v) (hn : i < zml M) (hl : zset1 ls i (.int v) = ls2) (K : Z Γ l M d mc ms FN (pc + 3) ls2 st h n k ks) : Z Γ l M d mc ms FN pc ls st h n k ks := fun p e R s m args below meth c lsA H locs B L P S => by
  obtain ⟨hx, hb, hml, hr, hown, hts, hlocks, hin, hxt, htr, hE, hbs, hR1, hR2, hR3, hR4⟩ := id B
  subst hl; obtain ⟨k9, hk9⟩ := zas_mem hi; exact lv_iinc hx hb hd (zLs.has L) hk9 hv hn rfl (fun lsB hl9 => K p e R s m args below meth c lsB H locs B (zLs.set1 L rfl hl9) P S)
theorem zs_iadd {Γ : zG} {l : Launch} {M : zM} {d mc ms : Nat} {FN : List Frame → Array Value → State → State → Prop} {pc : Nat} {ls : List (Option Value)} {st : List Value} {h : zH} {n k ks : Nat} {x y : Int32} (hd : decode (zby M) pc = .ok (.iadd, 1))  (K : Z Γ l M d mc ms FN (pc + 1) ls (.int (x + y) :: st) h n k ks) : Z Γ l M d mc ms FN pc ls (.int y :: .int x :: st) h n k ks := fun p e R s m args below meth c lsA H locs B L P S => by
  obtain ⟨hx, hb, hml, hr, hown, hts, hlocks, hin, hxt, htr, hE, hbs, hR1, hR2, hR3, hR4⟩ := id B
  exact lv_iadd hx hb hd (K p e R s m args below meth c lsA H locs B L P S)
theorem zs_isub {Γ : zG} {l : Launch} {M : zM} {d mc ms : Nat} {FN : List Frame → Array Value → State → State → Prop} {pc : Nat} {ls : List (Option Value)} {st : List Value} {h : zH} {n k ks : Nat} {x y : Int32} (hd : decode (zby M) pc = .ok (.isub, 1))  (K : Z Γ l M d mc ms FN (pc + 1) ls (.int (x - y) :: st) h n k ks) : Z Γ l M d mc ms FN pc ls (.int y :: .int x :: st) h n k ks := fun p e R s m args below meth c lsA H locs B L P S => by
  obtain ⟨hx, hb, hml, hr, hown, hts, hlocks, hin, hxt, htr, hE, hbs, hR1, hR2, hR3, hR4⟩ := id B
  exact lv_isub hx hb hd (K p e R s m args below meth c lsA H locs B L P S)
theorem zs_imul {Γ : zG} {l : Launch} {M : zM} {d mc ms : Nat} {FN : List Frame → Array Value → State → State → Prop} {pc : Nat} {ls : List (Option Value)} {st : List Value} {h : zH} {n k ks : Nat} {x y : Int32} (hd : decode (zby M) pc = .ok (.imul, 1))  (K : Z Γ l M d mc ms FN (pc + 1) ls (.int (x * y) :: st) h n k ks) : Z Γ l M d mc ms FN pc ls (.int y :: .int x :: st) h n k ks := fun p e R s m args below meth c lsA H locs B L P S => by
  obtain ⟨hx, hb, hml, hr, hown, hts, hlocks, hin, hxt, htr, hE, hbs, hR1, hR2, hR3, hR4⟩ := id B
  exact lv_imul hx hb hd (K p e R s m args below meth c lsA H locs B L P S)
theorem zs_iand {Γ : zG} {l : Launch} {M : zM} {d mc ms : Nat} {FN : List Frame → Array Value → State → State → Prop} {pc : Nat} {ls : List (Option Value)} {st : List Value} {h : zH} {n k ks : Nat} {x y : Int32} (hd : decode (zby M) pc = .ok (.iand, 1))  (K : Z Γ l M d mc ms FN (pc + 1) ls (.int (x &&& y) :: st) h n k ks) : Z Γ l M d mc ms FN pc ls (.int y :: .int x :: st) h n k ks := fun p e R s m args below meth c lsA H locs B L P S => by
  obtain ⟨hx, hb, hml, hr, hown, hts, hlocks, hin, hxt, htr, hE, hbs, hR1, hR2, hR3, hR4⟩ := id B
  exact lv_iand hx hb hd (K p e R s m args below meth c lsA H locs B L P S)
theorem zs_idiv {Γ : zG} {l : Launch} {M : zM} {d mc ms : Nat} {FN : List Frame → Array Value → State → State → Prop} {pc : Nat} {ls : List (Option Value)} {st : List Value} {h : zH} {n k ks : Nat} {x y : Int32} (hd : decode (zby M) pc = .ok (.idiv, 1)) (hne : ¬ y = 0) (K : Z Γ l M d mc ms FN (pc + 1) ls (.int (x / y) :: st) h n k ks) : Z Γ l M d mc ms FN pc ls (.int y :: .int x :: st) h n k ks := fun p e R s m args below meth c lsA H locs B L P S => by
  obtain ⟨hx, hb, hml, hr, hown, hts, hlocks, hin, hxt, htr, hE, hbs, hR1, hR2, hR3, hR4⟩ := id B
  exact lv_idiv hx hb hd hne (K p e R s m args below meth c lsA H locs B L P S)
theorem zs_irem {Γ : zG} {l : Launch} {M : zM} {d mc ms : Nat} {FN : List Frame → Array Value → State → State → Prop} {pc : Nat} {ls : List (Option Value)} {st : List Value} {h : zH} {n k ks : Nat} {x y : Int32} (hd : decode (zby M) pc = .ok (.irem, 1)) (hne : ¬ y = 0) (K : Z Γ l M d mc ms FN (pc + 1) ls (.int (x - x / y * y) :: st) h n k ks) : Z Γ l M d mc ms FN pc ls (.int y :: .int x :: st) h n k ks := fun p e R s m args below meth c lsA H locs B L P S => by
  obtain ⟨hx, hb, hml, hr, hown, hts, hlocks, hin, hxt, htr, hE, hbs, hR1, hR2, hR3, hR4⟩ := id B
  exact lv_irem hx hb hd hne (K p e R s m args below meth c lsA H locs B L P S)
theorem zs_ineg {Γ : zG} {l : Launch} {M : zM} {d mc ms : Nat} {FN : List Frame → Array Value → State → State → Prop} {pc : Nat} {ls : List (Option Value)} {st : List Value} {h : zH} {n k ks : Nat} {x : Int32} (hd : decode (zby M) pc = .ok (.ineg, 1))  (K : Z Γ l M d mc ms FN (pc + 1) ls (.int (-x) :: st) h n k ks) : Z Γ l M d mc ms FN pc ls (.int x :: st) h n k ks := fun p e R s m args below meth c lsA H locs B L P S => by
  obtain ⟨hx, hb, hml, hr, hown, hts, hlocks, hin, hxt, htr, hE, hbs, hR1, hR2, hR3, hR4⟩ := id B
  exact lv_ineg hx hb hd (K p e R s m args below meth c lsA H locs B L P S)
theorem zs_i2l {Γ : zG} {l : Launch} {M : zM} {d mc ms : Nat} {FN : List Frame → Array Value → State → State → Prop} {pc : Nat} {ls : List (Option Value)} {st : List Value} {h : zH} {n k ks : Nat} {x : Int32} (hd : decode (zby M) pc = .ok (.i2l, 1))  (K : Z Γ l M d mc ms FN (pc + 1) ls (.long x.toInt64 :: st) h n k ks) : Z Γ l M d mc ms FN pc ls (.int x :: st) h n k ks := fun p e R s m args below meth c lsA H locs B L P S => by
  obtain ⟨hx, hb, hml, hr, hown, hts, hlocks, hin, hxt, htr, hE, hbs, hR1, hR2, hR3, hR4⟩ := id B
  exact lv_i2l hx hb hd rfl (K p e R s m args below meth c lsA H locs B L P S)
theorem zs_i2c {Γ : zG} {l : Launch} {M : zM} {d mc ms : Nat} {FN : List Frame → Array Value → State → State → Prop} {pc : Nat} {ls : List (Option Value)} {st : List Value} {h : zH} {n k ks : Nat} {x : Int32} (hd : decode (zby M) pc = .ok (.i2c, 1))  (K : Z Γ l M d mc ms FN (pc + 1) ls (.int (x.toUInt32 % 65536).toInt32 :: st) h n k ks) : Z Γ l M d mc ms FN pc ls (.int x :: st) h n k ks := fun p e R s m args below meth c lsA H locs B L P S => by
  obtain ⟨hx, hb, hml, hr, hown, hts, hlocks, hin, hxt, htr, hE, hbs, hR1, hR2, hR3, hR4⟩ := id B
  exact lv_i2c hx hb hd rfl (K p e R s m args below meth c lsA H locs B L P S)
theorem zs_i2d {Γ : zG} {l : Launch} {M : zM} {d mc ms : Nat} {FN : List Frame → Array Value → State → State → Prop} {pc : Nat} {ls : List (Option Value)} {st : List Value} {h : zH} {n k ks : Nat} {x : Int32} (hd : decode (zby M) pc = .ok (.i2d, 1))  (K : Z Γ l M d mc ms FN (pc + 1) ls (.double (FP.i2d x) :: st) h n k ks) : Z Γ l M d mc ms FN pc ls (.int x :: st) h n k ks := fun p e R s m args below meth c lsA H locs B L P S => by
  obtain ⟨hx, hb, hml, hr, hown, hts, hlocks, hin, hxt, htr, hE, hbs, hR1, hR2, hR3, hR4⟩ := id B
  exact lv_i2d hx hb hd (K p e R s m args below meth c lsA H locs B L P S)
theorem zs_i2f {Γ : zG} {l : Launch} {M : zM} {d mc ms : Nat} {FN : List Frame → Array Value → State → State → Prop} {pc : Nat} {ls : List (Option Value)} {st : List Value} {h : zH} {n k ks : Nat} {x : Int32} (hd : decode (zby M) pc = .ok (.i2f, 1))  (K : Z Γ l M d mc ms FN (pc + 1) ls (.float (FP.i2f x) :: st) h n k ks) : Z Γ l M d mc ms FN pc ls (.int x :: st) h n k ks := fun p e R s m args below meth c lsA H locs B L P S => by
  obtain ⟨hx, hb, hml, hr, hown, hts, hlocks, hin, hxt, htr, hE, hbs, hR1, hR2, hR3, hR4⟩ := id B
  exact lv_i2f hx hb hd (K p e R s m args below meth c lsA H locs B L P S)
theorem zs_f2d {Γ : zG} {l : Launch} {M : zM} {d mc ms : Nat} {FN : List Frame → Array Value → State → State → Prop} {pc : Nat} {ls : List (Option Value)} {st : List Value} {h : zH} {n k ks : Nat} {x : UInt32} (hd : decode (zby M) pc = .ok (.f2d, 1)) (hne : vf_n64 (FP.f2d x)) (K : Z Γ l M d mc ms FN (pc + 1) ls (.double (FP.f2d x) :: st) h n k ks) : Z Γ l M d mc ms FN pc ls (.float x :: st) h n k ks := fun p e R s m args below meth c lsA H locs B L P S => by
  obtain ⟨hx, hb, hml, hr, hown, hts, hlocks, hin, hxt, htr, hE, hbs, hR1, hR2, hR3, hR4⟩ := id B
  exact lv_f2d hx hb hd hne (K p e R s m args below meth c lsA H locs B L P S)
theorem zs_ddiv {Γ : zG} {l : Launch} {M : zM} {d mc ms : Nat} {FN : List Frame → Array Value → State → State → Prop} {pc : Nat} {ls : List (Option Value)} {st : List Value} {h : zH} {n k ks : Nat} {x y : UInt64} (hd : decode (zby M) pc = .ok (.ddiv, 1)) (hne : vf_n64 (FP.ddiv x y)) (K : Z Γ l M d mc ms FN (pc + 1) ls (.double (FP.ddiv x y) :: st) h n k ks) : Z Γ l M d mc ms FN pc ls (.double y :: .double x :: st) h n k ks := fun p e R s m args below meth c lsA H locs B L P S => by
  obtain ⟨hx, hb, hml, hr, hown, hts, hlocks, hin, hxt, htr, hE, hbs, hR1, hR2, hR3, hR4⟩ := id B
  exact lv_ddiv hx hb hd hne (K p e R s m args below meth c lsA H locs B L P S)
theorem zs_fdiv {Γ : zG} {l : Launch} {M : zM} {d mc ms : Nat} {FN : List Frame → Array Value → State → State → Prop} {pc : Nat} {ls : List (Option Value)} {st : List Value} {h : zH} {n k ks : Nat} {x y : UInt32} (hd : decode (zby M) pc = .ok (.fdiv, 1)) (hne : vf_n32 (FP.fdiv x y)) (K : Z Γ l M d mc ms FN (pc + 1) ls (.float (FP.fdiv x y) :: st) h n k ks) : Z Γ l M d mc ms FN pc ls (.float y :: .float x :: st) h n k ks := fun p e R s m args below meth c lsA H locs B L P S => by
  obtain ⟨hx, hb, hml, hr, hown, hts, hlocks, hin, hxt, htr, hE, hbs, hR1, hR2, hR3, hR4⟩ := id B
  exact lv_fdiv hx hb hd hne (K p e R s m args below meth c lsA H locs B L P S)
theorem zs_dcmp {Γ : zG} {l : Launch} {M : zM} {d mc ms : Nat} {FN : List Frame → Array Value → State → State → Prop} {pc : Nat} {ls : List (Option Value)} {st : List Value} {h : zH} {n k ks : Nat} {x y : UInt64} {op : CmpOp} (hd : decode (zby M) pc = .ok (.dcmp op, 1))  (K : Z Γ l M d mc ms FN (pc + 1) ls (.int (Op.cmpValue (FP.dcmp x y) op) :: st) h n k ks) : Z Γ l M d mc ms FN pc ls (.double y :: .double x :: st) h n k ks := fun p e R s m args below meth c lsA H locs B L P S => by
  obtain ⟨hx, hb, hml, hr, hown, hts, hlocks, hin, hxt, htr, hE, hbs, hR1, hR2, hR3, hR4⟩ := id B
  exact lv_dcmp hx hb hd (K p e R s m args below meth c lsA H locs B L P S)
theorem zs_fcmp {Γ : zG} {l : Launch} {M : zM} {d mc ms : Nat} {FN : List Frame → Array Value → State → State → Prop} {pc : Nat} {ls : List (Option Value)} {st : List Value} {h : zH} {n k ks : Nat} {x y : UInt32} {op : CmpOp} (hd : decode (zby M) pc = .ok (.fcmp op, 1))  (K : Z Γ l M d mc ms FN (pc + 1) ls (.int (Op.cmpValue (FP.fcmp x y) op) :: st) h n k ks) : Z Γ l M d mc ms FN pc ls (.float y :: .float x :: st) h n k ks := fun p e R s m args below meth c lsA H locs B L P S => by
  obtain ⟨hx, hb, hml, hr, hown, hts, hlocks, hin, hxt, htr, hE, hbs, hR1, hR2, hR3, hR4⟩ := id B
  exact lv_fcmp hx hb hd (K p e R s m args below meth c lsA H locs B L P S)
theorem zs_lcmp {Γ : zG} {l : Launch} {M : zM} {d mc ms : Nat} {FN : List Frame → Array Value → State → State → Prop} {pc : Nat} {ls : List (Option Value)} {st : List Value} {h : zH} {n k ks : Nat} {x y : Int64} (hd : decode (zby M) pc = .ok (.lcmp, 1))  (K : Z Γ l M d mc ms FN (pc + 1) ls (.int (lg_cmp x y) :: st) h n k ks) : Z Γ l M d mc ms FN pc ls (.long y :: .long x :: st) h n k ks := fun p e R s m args below meth c lsA H locs B L P S => by
  obtain ⟨hx, hb, hml, hr, hown, hts, hlocks, hin, hxt, htr, hE, hbs, hR1, hR2, hR3, hR4⟩ := id B
  exact W.lcmp hx hb hd (K p e R s m args below meth c lsA H locs B L P S)
theorem zs_dup {Γ : zG} {l : Launch} {M : zM} {d mc ms : Nat} {FN : List Frame → Array Value → State → State → Prop} {pc : Nat} {ls : List (Option Value)} {st : List Value} {h : zH} {n k ks : Nat} {v : Value} (hd : decode (zby M) pc = .ok (.dup, 1)) (hv : v.category = 1) (K : Z Γ l M d mc ms FN (pc + 1) ls (v :: v :: st) h n k ks) : Z Γ l M d mc ms FN pc ls (v :: st) h n k ks := fun p e R s m args below meth c lsA H locs B L P S => by
  obtain ⟨hx, hb, hml, hr, hown, hts, hlocks, hin, hxt, htr, hE, hbs, hR1, hR2, hR3, hR4⟩ := id B
  exact lv_dup hx hb hd hv (K p e R s m args below meth c lsA H locs B L P S)
theorem zs_pop {Γ : zG} {l : Launch} {M : zM} {d mc ms : Nat} {FN : List Frame → Array Value → State → State → Prop} {pc : Nat} {ls : List (Option Value)} {st : List Value} {h : zH} {n k ks : Nat} {v : Value} (hd : decode (zby M) pc = .ok (.pop, 1)) (hv : v.category = 1) (K : Z Γ l M d mc ms FN (pc + 1) ls st h n k ks) : Z Γ l M d mc ms FN pc ls (v :: st) h n k ks := fun p e R s m args below meth c lsA H locs B L P S => by
  obtain ⟨hx, hb, hml, hr, hown, hts, hlocks, hin, hxt, htr, hE, hbs, hR1, hR2, hR3, hR4⟩ := id B
  exact lv_pop hx hb hd hv (K p e R s m args below meth c lsA H locs B L P S)
theorem zs_dup2 {Γ : zG} {l : Launch} {M : zM} {d mc ms : Nat} {FN : List Frame → Array Value → State → State → Prop} {pc : Nat} {ls : List (Option Value)} {st : List Value} {h : zH} {n k ks : Nat} {v u : Value} (hd : decode (zby M) pc = .ok (.dup2, 1)) (hv : v.category = 1) (hu : u.category = 1) (K : Z Γ l M d mc ms FN (pc + 1) ls (v :: u :: v :: u :: st) h n k ks) : Z Γ l M d mc ms FN pc ls (v :: u :: st) h n k ks := fun p e R s m args below meth c lsA H locs B L P S => by
  obtain ⟨hx, hb, hml, hr, hown, hts, hlocks, hin, hxt, htr, hE, hbs, hR1, hR2, hR3, hR4⟩ := id B
  exact lv_dup2_11 hx hb hd hv hu (K p e R s m args below meth c lsA H locs B L P S)
theorem zs_if_eq {Γ : zG} {l : Launch} {M : zM} {d mc ms : Nat} {FN : List Frame → Array Value → State → State → Prop} {pc : Nat} {ls : List (Option Value)} {st : List Value} {h : zH} {n k ks : Nat} {x : Int32} {off : Int} (tgt : Nat) (hd : decode (zby M) pc = .ok (.ifCond .eq off, 3)) (ht : (pc : Int) + off = (tgt : Int)) (Kt : x = 0 → Z Γ l M d mc ms FN tgt ls st h n k ks) (Kf : ¬ x = 0 → Z Γ l M d mc ms FN (pc + 3) ls st h n k ks) : Z Γ l M d mc ms FN pc ls (.int x :: st) h n k ks := fun p e R s m args below meth c lsA H locs B L P S => by
  obtain ⟨hx, hb, hml, hr, hown, hts, hlocks, hin, hxt, htr, hE, hbs, hR1, hR2, hR3, hR4⟩ := id B
  exact lv_if_eq hx hb hd ht (fun h9 => Kt h9 p e R s m args below meth c lsA H locs B L P S) (fun h9 => Kf h9 p e R s m args below meth c lsA H locs B L P S)
theorem zs_icmp_eq {Γ : zG} {l : Launch} {M : zM} {d mc ms : Nat} {FN : List Frame → Array Value → State → State → Prop} {pc : Nat} {ls : List (Option Value)} {st : List Value} {h : zH} {n k ks : Nat} {x y : Int32} {off : Int} (tgt : Nat) (hd : decode (zby M) pc = .ok (.if_icmp .eq off, 3)) (ht : (pc : Int) + off = (tgt : Int)) (Kt : x = y → Z Γ l M d mc ms FN tgt ls st h n k ks) (Kf : ¬ x = y → Z Γ l M d mc ms FN (pc + 3) ls st h n k ks) : Z Γ l M d mc ms FN pc ls (.int y :: .int x :: st) h n k ks := fun p e R s m args below meth c lsA H locs B L P S => by
  obtain ⟨hx, hb, hml, hr, hown, hts, hlocks, hin, hxt, htr, hE, hbs, hR1, hR2, hR3, hR4⟩ := id B
  exact lv_icmp_eq hx hb hd ht (fun h9 => Kt h9 p e R s m args below meth c lsA H locs B L P S) (fun h9 => Kf h9 p e R s m args below meth c lsA H locs B L P S)
theorem zs_if_ne {Γ : zG} {l : Launch} {M : zM} {d mc ms : Nat} {FN : List Frame → Array Value → State → State → Prop} {pc : Nat} {ls : List (Option Value)} {st : List Value} {h : zH} {n k ks : Nat} {x : Int32} {off : Int} (tgt : Nat) (hd : decode (zby M) pc = .ok (.ifCond .ne off, 3)) (ht : (pc : Int) + off = (tgt : Int)) (Kt : ¬ x = 0 → Z Γ l M d mc ms FN tgt ls st h n k ks) (Kf : x = 0 → Z Γ l M d mc ms FN (pc + 3) ls st h n k ks) : Z Γ l M d mc ms FN pc ls (.int x :: st) h n k ks := fun p e R s m args below meth c lsA H locs B L P S => by
  obtain ⟨hx, hb, hml, hr, hown, hts, hlocks, hin, hxt, htr, hE, hbs, hR1, hR2, hR3, hR4⟩ := id B
  exact lv_if_ne hx hb hd ht (fun h9 => Kt h9 p e R s m args below meth c lsA H locs B L P S) (fun h9 => Kf h9 p e R s m args below meth c lsA H locs B L P S)
theorem zs_icmp_ne {Γ : zG} {l : Launch} {M : zM} {d mc ms : Nat} {FN : List Frame → Array Value → State → State → Prop} {pc : Nat} {ls : List (Option Value)} {st : List Value} {h : zH} {n k ks : Nat} {x y : Int32} {off : Int} (tgt : Nat) (hd : decode (zby M) pc = .ok (.if_icmp .ne off, 3)) (ht : (pc : Int) + off = (tgt : Int)) (Kt : ¬ x = y → Z Γ l M d mc ms FN tgt ls st h n k ks) (Kf : x = y → Z Γ l M d mc ms FN (pc + 3) ls st h n k ks) : Z Γ l M d mc ms FN pc ls (.int y :: .int x :: st) h n k ks := fun p e R s m args below meth c lsA H locs B L P S => by
  obtain ⟨hx, hb, hml, hr, hown, hts, hlocks, hin, hxt, htr, hE, hbs, hR1, hR2, hR3, hR4⟩ := id B
  exact lv_icmp_ne hx hb hd ht (fun h9 => Kt h9 p e R s m args below meth c lsA H locs B L P S) (fun h9 => Kf h9 p e R s m args below meth c lsA H locs B L P S)
theorem zs_if_lt {Γ : zG} {l : Launch} {M : zM} {d mc ms : Nat} {FN : List Frame → Array Value → State → State → Prop} {pc : Nat} {ls : List (Option Value)} {st : List Value} {h : zH} {n k ks : Nat} {x : Int32} {off : Int} (tgt : Nat) (hd : decode (zby M) pc = .ok (.ifCond .lt off, 3)) (ht : (pc : Int) + off = (tgt : Int)) (Kt : x < 0 → Z Γ l M d mc ms FN tgt ls st h n k ks) (Kf : ¬ x < 0 → Z Γ l M d mc ms FN (pc + 3) ls st h n k ks) : Z Γ l M d mc ms FN pc ls (.int x :: st) h n k ks := fun p e R s m args below meth c lsA H locs B L P S => by
  obtain ⟨hx, hb, hml, hr, hown, hts, hlocks, hin, hxt, htr, hE, hbs, hR1, hR2, hR3, hR4⟩ := id B
  exact lv_if_lt hx hb hd ht (fun h9 => Kt h9 p e R s m args below meth c lsA H locs B L P S) (fun h9 => Kf h9 p e R s m args below meth c lsA H locs B L P S)
theorem zs_icmp_lt {Γ : zG} {l : Launch} {M : zM} {d mc ms : Nat} {FN : List Frame → Array Value → State → State → Prop} {pc : Nat} {ls : List (Option Value)} {st : List Value} {h : zH} {n k ks : Nat} {x y : Int32} {off : Int} (tgt : Nat) (hd : decode (zby M) pc = .ok (.if_icmp .lt off, 3)) (ht : (pc : Int) + off = (tgt : Int)) (Kt : x < y → Z Γ l M d mc ms FN tgt ls st h n k ks) (Kf : ¬ x < y → Z Γ l M d mc ms FN (pc + 3) ls st h n k ks) : Z Γ l M d mc ms FN pc ls (.int y :: .int x :: st) h n k ks := fun p e R s m args below meth c lsA H locs B L P S => by
  obtain ⟨hx, hb, hml, hr, hown, hts, hlocks, hin, hxt, htr, hE, hbs, hR1, hR2, hR3, hR4⟩ := id B
  exact lv_icmp_lt hx hb hd ht (fun h9 => Kt h9 p e R s m args below meth c lsA H locs B L P S) (fun h9 => Kf h9 p e R s m args below meth c lsA H locs B L P S)
theorem zs_if_ge {Γ : zG} {l : Launch} {M : zM} {d mc ms : Nat} {FN : List Frame → Array Value → State → State → Prop} {pc : Nat} {ls : List (Option Value)} {st : List Value} {h : zH} {n k ks : Nat} {x : Int32} {off : Int} (tgt : Nat) (hd : decode (zby M) pc = .ok (.ifCond .ge off, 3)) (ht : (pc : Int) + off = (tgt : Int)) (Kt : 0 ≤ x → Z Γ l M d mc ms FN tgt ls st h n k ks) (Kf : ¬ 0 ≤ x → Z Γ l M d mc ms FN (pc + 3) ls st h n k ks) : Z Γ l M d mc ms FN pc ls (.int x :: st) h n k ks := fun p e R s m args below meth c lsA H locs B L P S => by
  obtain ⟨hx, hb, hml, hr, hown, hts, hlocks, hin, hxt, htr, hE, hbs, hR1, hR2, hR3, hR4⟩ := id B
  exact lv_if_ge hx hb hd ht (fun h9 => Kt h9 p e R s m args below meth c lsA H locs B L P S) (fun h9 => Kf h9 p e R s m args below meth c lsA H locs B L P S)
theorem zs_icmp_ge {Γ : zG} {l : Launch} {M : zM} {d mc ms : Nat} {FN : List Frame → Array Value → State → State → Prop} {pc : Nat} {ls : List (Option Value)} {st : List Value} {h : zH} {n k ks : Nat} {x y : Int32} {off : Int} (tgt : Nat) (hd : decode (zby M) pc = .ok (.if_icmp .ge off, 3)) (ht : (pc : Int) + off = (tgt : Int)) (Kt : y ≤ x → Z Γ l M d mc ms FN tgt ls st h n k ks) (Kf : ¬ y ≤ x → Z Γ l M d mc ms FN (pc + 3) ls st h n k ks) : Z Γ l M d mc ms FN pc ls (.int y :: .int x :: st) h n k ks := fun p e R s m args below meth c lsA H locs B L P S => by
  obtain ⟨hx, hb, hml, hr, hown, hts, hlocks, hin, hxt, htr, hE, hbs, hR1, hR2, hR3, hR4⟩ := id B
  exact lv_icmp_ge hx hb hd ht (fun h9 => Kt h9 p e R s m args below meth c lsA H locs B L P S) (fun h9 => Kf h9 p e R s m args below meth c lsA H locs B L P S)
theorem zs_if_gt {Γ : zG} {l : Launch} {M : zM} {d mc ms : Nat} {FN : List Frame → Array Value → State → State → Prop} {pc : Nat} {ls : List (Option Value)} {st : List Value} {h : zH} {n k ks : Nat} {x : Int32} {off : Int} (tgt : Nat) (hd : decode (zby M) pc = .ok (.ifCond .gt off, 3)) (ht : (pc : Int) + off = (tgt : Int)) (Kt : 0 < x → Z Γ l M d mc ms FN tgt ls st h n k ks) (Kf : ¬ 0 < x → Z Γ l M d mc ms FN (pc + 3) ls st h n k ks) : Z Γ l M d mc ms FN pc ls (.int x :: st) h n k ks := fun p e R s m args below meth c lsA H locs B L P S => by
  obtain ⟨hx, hb, hml, hr, hown, hts, hlocks, hin, hxt, htr, hE, hbs, hR1, hR2, hR3, hR4⟩ := id B
  exact lv_if_gt hx hb hd ht (fun h9 => Kt h9 p e R s m args below meth c lsA H locs B L P S) (fun h9 => Kf h9 p e R s m args below meth c lsA H locs B L P S)
theorem zs_icmp_gt {Γ : zG} {l : Launch} {M : zM} {d mc ms : Nat} {FN : List Frame → Array Value → State → State → Prop} {pc : Nat} {ls : List (Option Value)} {st : List Value} {h : zH} {n k ks : Nat} {x y : Int32} {off : Int} (tgt : Nat) (hd : decode (zby M) pc = .ok (.if_icmp .gt off, 3)) (ht : (pc : Int) + off = (tgt : Int)) (Kt : y < x → Z Γ l M d mc ms FN tgt ls st h n k ks) (Kf : ¬ y < x → Z Γ l M d mc ms FN (pc + 3) ls st h n k ks) : Z Γ l M d mc ms FN pc ls (.int y :: .int x :: st) h n k ks := fun p e R s m args below meth c lsA H locs B L P S => by
  obtain ⟨hx, hb, hml, hr, hown, hts, hlocks, hin, hxt, htr, hE, hbs, hR1, hR2, hR3, hR4⟩ := id B
  exact lv_icmp_gt hx hb hd ht (fun h9 => Kt h9 p e R s m args below meth c lsA H locs B L P S) (fun h9 => Kf h9 p e R s m args below meth c lsA H locs B L P S)
theorem zs_if_le {Γ : zG} {l : Launch} {M : zM} {d mc ms : Nat} {FN : List Frame → Array Value → State → State → Prop} {pc : Nat} {ls : List (Option Value)} {st : List Value} {h : zH} {n k ks : Nat} {x : Int32} {off : Int} (tgt : Nat) (hd : decode (zby M) pc = .ok (.ifCond .le off, 3)) (ht : (pc : Int) + off = (tgt : Int)) (Kt : x ≤ 0 → Z Γ l M d mc ms FN tgt ls st h n k ks) (Kf : ¬ x ≤ 0 → Z Γ l M d mc ms FN (pc + 3) ls st h n k ks) : Z Γ l M d mc ms FN pc ls (.int x :: st) h n k ks := fun p e R s m args below meth c lsA H locs B L P S => by
  obtain ⟨hx, hb, hml, hr, hown, hts, hlocks, hin, hxt, htr, hE, hbs, hR1, hR2, hR3, hR4⟩ := id B
  exact lv_if_le hx hb hd ht (fun h9 => Kt h9 p e R s m args below meth c lsA H locs B L P S) (fun h9 => Kf h9 p e R s m args below meth c lsA H locs B L P S)
theorem zs_icmp_le {Γ : zG} {l : Launch} {M : zM} {d mc ms : Nat} {FN : List Frame → Array Value → State → State → Prop} {pc : Nat} {ls : List (Option Value)} {st : List Value} {h : zH} {n k ks : Nat} {x y : Int32} {off : Int} (tgt : Nat) (hd : decode (zby M) pc = .ok (.if_icmp .le off, 3)) (ht : (pc : Int) + off = (tgt : Int)) (Kt : x ≤ y → Z Γ l M d mc ms FN tgt ls st h n k ks) (Kf : ¬ x ≤ y → Z Γ l M d mc ms FN (pc + 3) ls st h n k ks) : Z Γ l M d mc ms FN pc ls (.int y :: .int x :: st) h n k ks := fun p e R s m args below meth c lsA H locs B L P S => by
  obtain ⟨hx, hb, hml, hr, hown, hts, hlocks, hin, hxt, htr, hE, hbs, hR1, hR2, hR3, hR4⟩ := id B
  exact lv_icmp_le hx hb hd ht (fun h9 => Kt h9 p e R s m args below meth c lsA H locs B L P S) (fun h9 => Kf h9 p e R s m args below meth c lsA H locs B L P S)
theorem zs_goto {Γ : zG} {l : Launch} {M : zM} {d mc ms : Nat} {FN : List Frame → Array Value → State → State → Prop} {pc : Nat} {ls : List (Option Value)} {st : List Value} {h : zH} {n k ks : Nat} {off : Int} (tgt : Nat) (hd : decode (zby M) pc = .ok (.goto off, 3)) (ht : (pc : Int) + off = (tgt : Int)) (K : Z Γ l M d mc ms FN tgt ls st h n k ks) : Z Γ l M d mc ms FN pc ls st h n k ks := fun p e R s m args below meth c lsA H locs B L P S => by
  obtain ⟨hx, hb, hml, hr, hown, hts, hlocks, hin, hxt, htr, hE, hbs, hR1, hR2, hR3, hR4⟩ := id B
  exact lv_goto hx hb hd ht (K p e R s m args below meth c lsA H locs B L P S)
theorem zs_ifnonnull {Γ : zG} {l : Launch} {M : zM} {d mc ms : Nat} {FN : List Frame → Array Value → State → State → Prop} {pc : Nat} {ls : List (Option Value)} {st : List Value} {h : zH} {n k ks : Nat} {x : Nat} {off : Int} (tgt : Nat) (hd : decode (zby M) pc = .ok (.ifnonnull off, 3)) (ht : (pc : Int) + off = (tgt : Int)) (K : Z Γ l M d mc ms FN tgt ls st h n k ks) : Z Γ l M d mc ms FN pc ls (.ref x :: st) h n k ks := fun p e R s m args below meth c lsA H locs B L P S => by
  obtain ⟨hx, hb, hml, hr, hown, hts, hlocks, hin, hxt, htr, hE, hbs, hR1, hR2, hR3, hR4⟩ := id B
  exact lv_ifnonnull hx hb hd ht (K p e R s m args below meth c lsA H locs B L P S)
theorem zs_ifnullN {Γ : zG} {l : Launch} {M : zM} {d mc ms : Nat} {FN : List Frame → Array Value → State → State → Prop} {pc : Nat} {ls : List (Option Value)} {st : List Value} {h : zH} {n k ks : Nat}  {off : Int} (tgt : Nat) (hd : decode (zby M) pc = .ok (.ifnull off, 3)) (ht : (pc : Int) + off = (tgt : Int)) (K : Z Γ l M d mc ms FN tgt ls st h n k ks) : Z Γ l M d mc ms FN pc ls (.null :: st) h n k ks := fun p e R s m args below meth c lsA H locs B L P S => by
  obtain ⟨hx, hb, hml, hr, hown, hts, hlocks, hin, hxt, htr, hE, hbs, hR1, hR2, hR3, hR4⟩ := id B
  exact lv_ifnullN hx hb hd ht (K p e R s m args below meth c lsA H locs B L P S)
theorem zs_ifnull {Γ : zG} {l : Launch} {M : zM} {d mc ms : Nat} {FN : List Frame → Array Value → State → State → Prop} {pc : Nat} {ls : List (Option Value)} {st : List Value} {h : zH} {n k ks : Nat} {x : Nat} {off : Int} (hd : decode (zby M) pc = .ok (.ifnull off, 3)) (K : Z Γ l M d mc ms FN (pc + 3) ls st h n k ks) : Z Γ l M d mc ms FN pc ls (.ref x :: st) h n k ks := fun p e R s m args below meth c lsA H locs B L P S => by
  obtain ⟨hx, hb, hml, hr, hown, hts, hlocks, hin, hxt, htr, hE, hbs, hR1, hR2, hR3, hR4⟩ := id B
  exact lv_ifnull hx hb hd (K p e R s m args below meth c lsA H locs B L P S)
theorem zs_ifnonnullN {Γ : zG} {l : Launch} {M : zM} {d mc ms : Nat} {FN : List Frame → Array Value → State → State → Prop} {pc : Nat} {ls : List (Option Value)} {st : List Value} {h : zH} {n k ks : Nat}  {off : Int} (hd : decode (zby M) pc = .ok (.ifnonnull off, 3)) (K : Z Γ l M d mc ms FN (pc + 3) ls st h n k ks) : Z Γ l M d mc ms FN pc ls (.null :: st) h n k ks := fun p e R s m args below meth c lsA H locs B L P S => by
  obtain ⟨hx, hb, hml, hr, hown, hts, hlocks, hin, hxt, htr, hE, hbs, hR1, hR2, hR3, hR4⟩ := id B
  exact lv_ifnonnullN hx hb hd (K p e R s m args below meth c lsA H locs B L P S)
theorem zs_tableOut {Γ : zG} {l : Launch} {M : zM} {d mc ms : Nat} {FN : List Frame → Array Value → State → State → Prop} {pc : Nat} {ls : List (Option Value)} {st : List Value} {h : zH} {n k ks : Nat} {x : Int32} {dflt lo hi : Int} {offs : Array Int} {len : Nat} (tgt : Nat) (hd : decode (zby M) pc = .ok (.tableswitch dflt lo hi offs, len)) (h9 : x.toInt < lo ∨ hi < x.toInt) (ht : (pc : Int) + dflt = (tgt : Int)) (K : Z Γ l M d mc ms FN tgt ls st h n k ks) : Z Γ l M d mc ms FN pc ls (.int x :: st) h n k ks := fun p e R s m args below meth c lsA H locs B L P S => by
  obtain ⟨hx, hb, hml, hr, hown, hts, hlocks, hin, hxt, htr, hE, hbs, hR1, hR2, hR3, hR4⟩ := id B
  exact lv_tableOut hx hb hd h9 ht (K p e R s m args below meth c lsA H locs B L P S)
theorem zs_tableIn {Γ : zG} {l : Launch} {M : zM} {d mc ms : Nat} {FN : List Frame → Array Value → State → State → Prop} {pc : Nat} {ls : List (Option Value)} {st : List Value} {h : zH} {n k ks : Nat} {x : Int32} {dflt lo hi off : Int} {offs : Array Int} {len : Nat} (tgt : Nat) (hd : decode (zby M) pc = .ok (.tableswitch dflt lo hi offs, len)) (h1 : ¬ x.toInt < lo) (h2 : ¬ hi < x.toInt) (ho : offs[(x.toInt - lo).toNat]? = some off) (ht : (pc : Int) + off = (tgt : Int)) (K : Z Γ l M d mc ms FN tgt ls st h n k ks) : Z Γ l M d mc ms FN pc ls (.int x :: st) h n k ks := fun p e R s m args below meth c lsA H locs B L P S => by
  obtain ⟨hx, hb, hml, hr, hown, hts, hlocks, hin, hxt, htr, hE, hbs, hR1, hR2, hR3, hR4⟩ := id B
  exact lv_tableIn hx hb hd h1 h2 ho ht (K p e R s m args below meth c lsA H locs B L P S)
theorem zs_lookup {Γ : zG} {l : Launch} {M : zM} {d mc ms : Nat} {FN : List Frame → Array Value → State → State → Prop} {pc : Nat} {ls : List (Option Value)} {st : List Value} {h : zH} {n k ks : Nat} {x : Int32} {dflt off : Int} {ps : Array (Int × Int)} {len : Nat} (tgt : Nat) (hd : decode (zby M) pc = .ok (.lookupswitch dflt ps, len)) (hp : (ps.toList.zip (ps.toList.drop 1)).all (fun (a, next) => a.1 < next.1) = true) (ho : Op.lookupswitch.offset ps.toList dflt x.toInt = off) (ht : (pc : Int) + off = (tgt : Int)) (K : Z Γ l M d mc ms FN tgt ls st h n k ks) : Z Γ l M d mc ms FN pc ls (.int x :: st) h n k ks := fun p e R s m args below meth c lsA H locs B L P S => by
  obtain ⟨hx, hb, hml, hr, hown, hts, hlocks, hin, hxt, htr, hE, hbs, hR1, hR2, hR3, hR4⟩ := id B
  exact lv_lookup hx hb hd hp ho ht (K p e R s m args below meth c lsA H locs B L P S)
/-! ends of a method -/
section ZEND
theorem zs_iret {Γ : zG} {l : Launch} {M : zM} {d mc ms : Nat} {Q : zQ} {pc : Nat} {ls : List (Option Value)} {h : zH} {n k ks : Nat} {v : Int32} {ty : FieldType} (hd : decode (zby M) pc = .ok (.ireturn, 1)) (hrt : zrt M = some ty) (hn : narrow ty (.int v) = .int v) (hk : k ≤ mc) (hks : ks ≤ ms) (hQ : Q (.inl (some (.int v))) h n) : Z Γ l M d mc ms (zFin Γ Q mc ms) pc ls [.int v] h n k ks := fun p e R s m args below meth c lsA H locs B L P S => by
  obtain ⟨hx, hb, hml, hr, hown, hts, hlocks, hin, hxt, htr, hE, hbs, hR1, hR2, hR3, hR4⟩ := id B
  exact W.widen hk hks (vx_ret (W.zret hx hb (hr.trans hrt) hn (fun t ht hW => ⟨⟨_, h, n, rfl, hQ, by rw [ht]; exact P⟩, S.F ht⟩) S.2.2 hd hlocks))
theorem zs_vret {Γ : zG} {l : Launch} {M : zM} {d mc ms : Nat} {Q : zQ} {pc : Nat} {ls : List (Option Value)} {h : zH} {n k ks : Nat} (hd : decode (zby M) pc = .ok (.return_, 1)) (hrt : zrt M = none) (hk : k ≤ mc) (hks : ks ≤ ms) (hQ : Q (.inl none) h n) : Z Γ l M d mc ms (zFin Γ Q mc ms) pc ls [] h n k ks := fun p e R s m args below meth c lsA H locs B L P S => by
  obtain ⟨hx, hb, hml, hr, hown, hts, hlocks, hin, hxt, htr, hE, hbs, hR1, hR2, hR3, hR4⟩ := id B
  exact W.widen hk hks (vx_ret (W.vret hx hb (hr.trans hrt) (fun t ht hW => ⟨⟨_, h, n, rfl, hQ, by rw [ht]; exact P⟩, S.F ht⟩) S.2.2 hd hlocks))
theorem zs_aret {Γ : zG} {l : Launch} {M : zM} {d mc ms : Nat} {Q : zQ} {pc : Nat} {ls : List (Option Value)} {h : zH} {n k ks : Nat} {v : Value} {cn : String} (hd : decode (zby M) pc = .ok (.areturn, 1)) (hrt : zrt M = some (.object cn)) (hv : v = .null ∨ ∃ a, v = .ref a) (hk : k ≤ mc) (hks : ks ≤ ms) (hQ : Q (.inl (some v)) h n) : Z Γ l M d mc ms (zFin Γ Q mc ms) pc ls [v] h n k ks := fun p e R s m args below meth c lsA H locs B L P S => by
  obtain ⟨hx, hb, hml, hr, hown, hts, hlocks, hin, hxt, htr, hE, hbs, hR1, hR2, hR3, hR4⟩ := id B
  exact W.widen hk hks (vx_ret (W.aret hx hb (hr.trans hrt) (Or.inl ⟨cn, rfl⟩) hv (fun t ht hW => ⟨⟨_, h, n, rfl, hQ, by rw [ht]; exact P⟩, S.F ht⟩) S.2.2 hd hlocks))
theorem zs_dret {Γ : zG} {l : Launch} {M : zM} {d mc ms : Nat} {Q : zQ} {pc : Nat} {ls : List (Option Value)} {h : zH} {n k ks : Nat} {v : UInt64} (hd : decode (zby M) pc = .ok (.dreturn, 1)) (hrt : zrt M = some .double) (hk : k ≤ mc) (hks : ks ≤ ms) (hQ : Q (.inl (some (.double v))) h n) : Z Γ l M d mc ms (zFin Γ Q mc ms) pc ls [.double v] h n k ks := fun p e R s m args below meth c lsA H locs B L P S => by
  obtain ⟨hx, hb, hml, hr, hown, hts, hlocks, hin, hxt, htr, hE, hbs, hR1, hR2, hR3, hR4⟩ := id B
  exact W.widen hk hks (vx_ret (W.dret hx hb (hr.trans hrt) (fun t ht hW => ⟨⟨_, h, n, rfl, hQ, by rw [ht]; exact P⟩, S.F ht⟩) S.2.2 hd hlocks))
theorem zs_fret {Γ : zG} {l : Launch} {M : zM} {d mc ms : Nat} {Q : zQ} {pc : Nat} {ls : List (Option Value)} {h : zH} {n k ks : Nat} {v : UInt32} (hd : decode (zby M) pc = .ok (.freturn, 1)) (hrt : zrt M = some .float) (hk : k ≤ mc) (hks : ks ≤ ms) (hQ : Q (.inl (some (.float v))) h n) : Z Γ l M d mc ms (zFin Γ Q mc ms) pc ls [.float v] h n k ks := fun p e R s m args below meth c lsA H locs B L P S => by
  obtain ⟨hx, hb, hml, hr, hown, hts, hlocks, hin, hxt, htr, hE, hbs, hR1, hR2, hR3, hR4⟩ := id B
  exact W.widen hk hks (vx_ret (W.fret hx hb (hr.trans hrt) (fun t ht hW => ⟨⟨_, h, n, rfl, hQ, by rw [ht]; exact P⟩, S.F ht⟩) S.2.2 hd hlocks))
end ZEND
/-! the heap -/
def zu (h : zH) (a : Nat) (e : zE) : zH := fun q => if q = a then some e else h q
theorem zu_s {h : zH} {a : Nat} {e : zE} : zu h a e a = some e := if_pos rfl
theorem zu_n {h : zH} {a q : Nat} {e : zE} (hq : q ≠ a) : zu h a e q = h q := if_neg hq
theorem zRel.at1 {Γ : zG} {h : zH} {n : Nat} {H : Heap} {a : Nat} {e : zE} (P : zRel Γ h n H) (hh : h a = some e) : va_P (zgD Γ) zCl [(a, zcv Γ e)] H := by
  intro k q hk
  match k, hk with
  | 0, hk => cases hk; exact (P.2 a e hh).2
  | k + 1, hk => cases hk
theorem zRel.set {Γ : zG} {h : zH} {n : Nat} {H H1 : Heap} {a : Nat} {e : zE} (P : zRel Γ h n H) (hb : zgB Γ ≤ a) (z : H1.size = H.size) (oq : ∀ q : Nat, q ≠ a → H1[q]? = H[q]?) (he : va_at (zgD Γ) zCl (a, zcv Γ e) H1) : zRel Γ (zu h a e) n H1 := by
  refine ⟨z.trans P.1, fun q e9 hq => ?_⟩
  unfold zu at hq
  split at hq
  · rename_i e1
    subst e1
    cases hq
    exact ⟨hb, he⟩
  · rename_i e1
    obtain ⟨g1, g2⟩ := P.2 q e9 hq
    exact ⟨g1, g2.kept (oq q e1)⟩
theorem zRel.push {Γ : zG} {h : zH} {n : Nat} {H H1 : Heap} {e : zE} (P : zRel Γ h n H) (hb : zgB Γ ≤ n) (z : H1.size = H.size + 1) (oq : ∀ q : Nat, q < H.size → H1[q]? = H[q]?) (he : va_at (zgD Γ) zCl (n, zcv Γ e) H1) : zRel Γ (zu h n e) (n + 1) H1 := by
  refine ⟨by rw [z, P.1], fun q e9 hq => ?_⟩
  unfold zu at hq
  split at hq
  · rename_i e1
    subst e1
    cases hq
    exact ⟨hb, he⟩
  · obtain ⟨g1, g2⟩ := P.2 q e9 hq
    exact ⟨g1, g2.kept (oq q g2.lt)⟩
theorem zRel.grow {Γ : zG} {h : zH} {n : Nat} {H H1 : Heap} (P : zRel Γ h n H) (oq : ∀ q : Nat, q < H.size → H1[q]? = H[q]?) : zRel Γ h H1.size H1 := ⟨rfl, fun q e9 hq => ⟨(P.2 q e9 hq).1, (P.2 q e9 hq).2.kept (oq q (P.2 q e9 hq).2.lt)⟩⟩
theorem zsz {Γ : zG} {h : zH} {n : Nat} {s : State} {H : Heap} {locs : List Loc} (P : zRel Γ h n H) (S : va_S (zSp Γ) s.heap H locs) (hbs : zgB Γ ≤ s.heap.size) : zgB Γ ≤ n := by rw [← P.1]; exact Nat.le_trans hbs S.1
theorem zSpush {Γ : zG} {H0 H H1 : Heap} {locs : List Loc} (S : va_S (zSp Γ) H0 H locs) (z : H1.size = H.size + 1) (oq : ∀ q : Nat, q < H.size → H1[q]? = H[q]?) : va_S (zSp Γ) H0 H1 locs :=
  ⟨Nat.le_trans S.1 (by omega), fun x h1 h2 => (oq x (Nat.lt_of_lt_of_le h1 S.1)).trans (S.2.1 x h1 h2), S.2.2⟩
section ZHEAP
theorem zs_get {Γ : zG} {l : Launch} {M : zM} {d mc ms : Nat} {FN : List Frame → Array Value → State → State → Prop} {pc : Nat} {ls : List (Option Value)} {st : List Value} {h : zH} {n k ks : Nat} {idx ci j a : Nat} {fin : Bool} {ty : FieldType} {fs : List Value} {v : Value} (hd : decode (zby M) pc = .ok (.getfield idx, 3)) (hF : zF (zy M).cls idx ci j fin ty) (hh : h a = some (.inr (ci, fs))) (hv : fs[j]? = some v) (K : Z Γ l M d mc ms FN (pc + 3) ls (v :: st) h n k ks) : Z Γ l M d mc ms FN pc ls (.ref a :: st) h n k ks := fun p e R s m args below meth c lsA H locs B L P S => by
  obtain ⟨hx, hb, hml, hr, hown, hts, hlocks, hin, hxt, htr, hE, hbs, hR1, hR2, hR3, hR4⟩ := id B
  obtain ⟨C, T, N, hc, hk, hl, ho, hf, hty⟩ := hF
  obtain ⟨ty0, g1, g2, g3, g4⟩ := zClOK _ _ hc
  exact va_get (D := zgD Γ) (ws := [(a, zcv Γ (.inr (ci, fs)))]) (Ts := u_ws C T N) (ci := ci) hx hb (fun w hw => hts w (g1 w hw) (g2 w hw)) (fun _ q => q) hown hE.1 (P.at1 hh) 0 rfl hc j hk (hts _ hl rfl) (fun x q => by rw [ho] at q; exact q) hv hd (K p e R s m args below meth c lsA H locs B L P S)
theorem zs_put {Γ : zG} {l : Launch} {M : zM} {d mc ms : Nat} {FN : List Frame → Array Value → State → State → Prop} {pc : Nat} {ls : List (Option Value)} {st : List Value} {h : zH} {n k ks : Nat} {idx ci j a : Nat} {ty : FieldType} {fs fs2 : List Value} {v : Value} (hd : decode (zby M) pc = .ok (.putfield idx, 3)) (hF : zF (zy M).cls idx ci j false ty) (hh : h a = some (.inr (ci, fs))) (hn : narrow ty v = v) (hfit : fits ty v = true) (hlt : j < fs.length) (hfs : fs.set j v = fs2) (K : Z Γ l M d mc ms FN (pc + 3) ls st (zu h a (.inr (ci, fs2))) n k ks) : Z Γ l M d mc ms FN pc ls (v :: .ref a :: st) h n k ks := fun p e R s m args below meth c lsA H locs B L P S => by
  obtain ⟨hx, hb, hml, hr, hown, hts, hlocks, hin, hxt, htr, hE, hbs, hR1, hR2, hR3, hR4⟩ := id B
  obtain ⟨C, T, N, hc, hk, hl, ho, hf, hty⟩ := hF
  obtain ⟨ty0, g1, g2, g3, g4⟩ := zClOK _ _ hc
  have hts' : ∀ w ∈ u_ws C T N, w.before args s = true := fun w hw => hts w (g1 w hw) (g2 w hw)
  have hap := va_apart (own := (zy M).cls) hts' (fun _ q => q) ty0 g3 g4 hE.1 hc
  obtain ⟨hbase, r, h1, cell, q1, q2, q3, q4⟩ := P.2 a _ hh
  have hr' : r = (C, T, N) := Option.some.inj (h1.symm.trans hc)
  subst hr'
  obtain ⟨hS, hfc, kC, hkC, hkind⟩ := hE.1.1 ci _ hc
  obtain ⟨cf, kf, fi, f, hi, hsl⟩ := hS j hk
  have hlay := hts' _ (u_in_lay hk)
  unfold u_lay at hlay
  rw [if_neg (by rw [hf]; decide)] at hlay
  have hst := (u_facts hfc hkC (u_lays hts' (fun _ q => q) hk) hi).1
  have h6 := u_store hfc hkC hkind hlay hi hty hn hfit
  refine W.putK hx hb (f := f) ⟨hown, hts _ hl rfl, ⟨_, _, _, (by rw [ho] at hi; exact hi)⟩, hst⟩ (by rw [q2]; exact h6) q1 q3 (by rw [hsl]; exact k2_hasslot (q4 j hk)) rfl rfl hd fun H' e1 e2 e3 => ?_
  rw [hsl] at e1 ⊢
  subst hfs
  exact K p e R s m args below meth c lsA H' _ B L (P.set hbase e2 e3 ⟨_, hc, t_OB.to (V := updV (vp_V fs) j v) ⟨_, e1, q2, q3, t_set q4 hap hk v⟩ (fun i _ => vp_updV_set hlt v i)⟩) (S.put e2 e3 hbase)
theorem zs_putF {Γ : zG} {l : Launch} {M : zM} {d mc ms : Nat} {FN : List Frame → Array Value → State → State → Prop} {pc : Nat} {ls : List (Option Value)} {st : List Value} {h : zH} {n k ks : Nat} {idx ci j a : Nat} {ty : FieldType} {fs fs2 : List Value} {v : Value} (hd : decode (zby M) pc = .ok (.putfield idx, 3)) (hini : (zy M).name = "<init>") (hF : zF (zy M).cls idx ci j true ty) (hC : ∃ T N, zCl[ci]? = some ((zy M).cls, T, N)) (hh : h a = some (.inr (ci, fs))) (hn : narrow ty v = v) (hfit : fits ty v = true) (hlt : j < fs.length) (hfs : fs.set j v = fs2) (K : Z Γ l M d mc ms FN (pc + 3) ls st (zu h a (.inr (ci, fs2))) n k ks) : Z Γ l M d mc ms FN pc ls (v :: .ref a :: st) h n k ks := fun p e R s m args below meth c lsA H locs B L P S => by
  obtain ⟨hx, hb, hml, hr, hown, hts, hlocks, hin, hxt, htr, hE, hbs, hR1, hR2, hR3, hR4⟩ := id B
  obtain ⟨C, T, N, hc, hk, hl, ho, hf, hty⟩ := hF
  obtain ⟨T9, N9, hc9⟩ := hC
  have hCe : C = (zy M).cls := congrArg (fun q : vw_C => q.1) (Option.some.inj (hc.symm.trans hc9))
  obtain ⟨ty0, g1, g2, g3, g4⟩ := zClOK _ _ hc
  have hts' : ∀ w ∈ u_ws C T N, w.before args s = true := fun w hw => hts w (g1 w hw) (g2 w hw)
  have hap := va_apart (own := (zy M).cls) hts' (fun _ q => q) ty0 g3 g4 hE.1 hc
  obtain ⟨hbase, r, h1, cell, q1, q2, q3, q4⟩ := P.2 a _ hh
  have hr' : r = (C, T, N) := Option.some.inj (h1.symm.trans hc)
  subst hr'
  obtain ⟨hS, hfc, kC, hkC, hkind⟩ := hE.1.1 ci _ hc
  obtain ⟨cf, kf, fi, f, hi, hsl⟩ := hS j hk
  have hlay := hts' _ (u_in_lay hk)
  unfold u_lay at hlay
  rw [if_pos hf] at hlay
  have hst := (u_facts hfc hkC (u_lays hts' (fun _ q => q) hk) hi).1
  have hcf : m.cls = cf := by
    obtain ⟨_, _, c', _, _, _, -, -, hf', -, -, -, hown2, -⟩ := Cond.laysFinal_spec hlay
    have e1 : c' = cf := by have := hi.symm.trans hf'; simp at this; exact this.1.symm
    rw [ho, hCe] at hown2
    rw [← e1]; exact Option.some.inj (hown.symm.trans hown2)
  have h6 := u_fits hfc hkC hkind (Or.inr hlay) hi hty hn hfit
  refine W.putFinK hx hb hown (hts _ hl rfl) (by rw [ho] at hi; exact hi) hst hcf (hin.trans hini) (by rw [q2]; exact h6) q1 q3 (by rw [hsl]; exact k2_hasslot (q4 j hk)) rfl rfl hd fun H' e1 e2 e3 => ?_
  rw [hsl] at e1 ⊢
  subst hfs
  exact K p e R s m args below meth c lsA H' _ B L (P.set hbase e2 e3 ⟨_, hc, t_OB.to (V := updV (vp_V fs) j v) ⟨_, e1, q2, q3, t_set q4 hap hk v⟩ (fun i _ => vp_updV_set hlt v i)⟩) (S.put e2 e3 hbase)
theorem zs_iald {Γ : zG} {l : Launch} {M : zM} {d mc ms : Nat} {FN : List Frame → Array Value → State → State → Prop} {pc : Nat} {ls : List (Option Value)} {st : List Value} {h : zH} {n k ks : Nat} {a N : Nat} {f : Nat → Int32} {i : Int32} (hd : decode (zby M) pc = .ok (.iaload, 1)) (hh : h a = some (.inl (0, N, .inl f))) (hi : vp_in i N) (K : Z Γ l M d mc ms FN (pc + 1) ls (.int (f i.toNatClampNeg) :: st) h n k ks) : Z Γ l M d mc ms FN pc ls (.int i :: .ref a :: st) h n k ks := fun p e R s m args below meth c lsA H locs B L P S => by
  obtain ⟨hx, hb, hml, hr, hown, hts, hlocks, hin, hxt, htr, hE, hbs, hR1, hR2, hR3, hR4⟩ := id B
  exact va_iald hx hb hE.1 (P.at1 hh) 0 0 rfl rfl hi hd (K p e R s m args below meth c lsA H locs B L P S)
theorem zs_cald {Γ : zG} {l : Launch} {M : zM} {d mc ms : Nat} {FN : List Frame → Array Value → State → State → Prop} {pc : Nat} {ls : List (Option Value)} {st : List Value} {h : zH} {n k ks : Nat} {a N : Nat} {f : Nat → Int32} {i : Int32} (hd : decode (zby M) pc = .ok (.caload, 1)) (hh : h a = some (.inl (1, N, .inl f))) (hi : vp_in i N) (K : Z Γ l M d mc ms FN (pc + 1) ls (.int (f i.toNatClampNeg) :: st) h n k ks) : Z Γ l M d mc ms FN pc ls (.int i :: .ref a :: st) h n k ks := fun p e R s m args below meth c lsA H locs B L P S => by
  obtain ⟨hx, hb, hml, hr, hown, hts, hlocks, hin, hxt, htr, hE, hbs, hR1, hR2, hR3, hR4⟩ := id B
  exact va_cald hx hb hE.1 (P.at1 hh) 0 1 rfl rfl hi hd (K p e R s m args below meth c lsA H locs B L P S)
theorem zs_lald {Γ : zG} {l : Launch} {M : zM} {d mc ms : Nat} {FN : List Frame → Array Value → State → State → Prop} {pc : Nat} {ls : List (Option Value)} {st : List Value} {h : zH} {n k ks : Nat} {a N : Nat} {f : Nat → Int64} {i : Int32} (hd : decode (zby M) pc = .ok (.laload, 1)) (hh : h a = some (.inl (4, N, .inr (.inl f)))) (hi : vp_in i N) (K : Z Γ l M d mc ms FN (pc + 1) ls (.long (f i.toNatClampNeg) :: st) h n k ks) : Z Γ l M d mc ms FN pc ls (.int i :: .ref a :: st) h n k ks := fun p e R s m args below meth c lsA H locs B L P S => by
  obtain ⟨hx, hb, hml, hr, hown, hts, hlocks, hin, hxt, htr, hE, hbs, hR1, hR2, hR3, hR4⟩ := id B
  exact va_lald hx hb hE.1 (P.at1 hh) 0 4 rfl rfl hi hd (K p e R s m args below meth c lsA H locs B L P S)
theorem zs_dald {Γ : zG} {l : Launch} {M : zM} {d mc ms : Nat} {FN : List Frame → Array Value → State → State → Prop} {pc : Nat} {ls : List (Option Value)} {st : List Value} {h : zH} {n k ks : Nat} {a N : Nat} {f : Nat → UInt64} {i : Int32} (hd : decode (zby M) pc = .ok (.daload, 1)) (hh : h a = some (.inl (5, N, .inr (.inr (.inr (.inl f)))))) (hi : vp_in i N) (K : Z Γ l M d mc ms FN (pc + 1) ls (.double (f i.toNatClampNeg) :: st) h n k ks) : Z Γ l M d mc ms FN pc ls (.int i :: .ref a :: st) h n k ks := fun p e R s m args below meth c lsA H locs B L P S => by
  obtain ⟨hx, hb, hml, hr, hown, hts, hlocks, hin, hxt, htr, hE, hbs, hR1, hR2, hR3, hR4⟩ := id B
  exact va_dald hx hb hE.1 (P.at1 hh) 0 5 rfl rfl hi hd (K p e R s m args below meth c lsA H locs B L P S)
theorem zs_aald {Γ : zG} {l : Launch} {M : zM} {d mc ms : Nat} {FN : List Frame → Array Value → State → State → Prop} {pc : Nat} {ls : List (Option Value)} {st : List Value} {h : zH} {n k ks : Nat} {kd a N : Nat} {f : Nat → Option Nat} {i : Int32} (hkd : kd = 2 ∨ kd = 3) (hd : decode (zby M) pc = .ok (.aaload, 1)) (hh : h a = some (.inl (kd, N, .inr (.inr (.inr (.inr f)))))) (hi : vp_in i N) (K : Z Γ l M d mc ms FN (pc + 1) ls (va_rf (f i.toNatClampNeg) :: st) h n k ks) : Z Γ l M d mc ms FN pc ls (.int i :: .ref a :: st) h n k ks := fun p e R s m args below meth c lsA H locs B L P S => by
  obtain ⟨hx, hb, hml, hr, hown, hts, hlocks, hin, hxt, htr, hE, hbs, hR1, hR2, hR3, hR4⟩ := id B
  rcases hkd with rfl | rfl
  · exact va_aldq hx hb hE.1 (P.at1 hh) 0 2 rfl rfl hi hd (K p e R s m args below meth c lsA H locs B L P S)
  · exact va_aldq hx hb hE.1 (P.at1 hh) 0 3 rfl rfl hi hd (K p e R s m args below meth c lsA H locs B L P S)
theorem zs_alen {Γ : zG} {l : Launch} {M : zM} {d mc ms : Nat} {FN : List Frame → Array Value → State → State → Prop} {pc : Nat} {ls : List (Option Value)} {st : List Value} {h : zH} {n k ks : Nat} {a N : Nat} {x : (Nat → Int32) ⊕ (Nat → Int64) ⊕ (Nat → UInt32) ⊕ (Nat → UInt64) ⊕ (Nat → Option Nat)} (hd : decode (zby M) pc = .ok (.arraylength, 1)) (hh : h a = some (.inl (0, N, x))) (K : Z Γ l M d mc ms FN (pc + 1) ls (.int (nI N) :: st) h n k ks) : Z Γ l M d mc ms FN pc ls (.ref a :: st) h n k ks := fun p e R s m args below meth c lsA H locs B L P S => by
  obtain ⟨hx, hb, hml, hr, hown, hts, hlocks, hin, hxt, htr, hE, hbs, hR1, hR2, hR3, hR4⟩ := id B
  exact va_alen hx hb hE.1 (P.at1 hh) 0 0 rfl rfl rfl hd (K p e R s m args below meth c lsA H locs B L P S)
theorem zs_iast {Γ : zG} {l : Launch} {M : zM} {d mc ms : Nat} {FN : List Frame → Array Value → State → State → Prop} {pc : Nat} {ls : List (Option Value)} {st : List Value} {h : zH} {n k ks : Nat} {a N : Nat} {f : Nat → Int32} {i x : Int32} (hd : decode (zby M) pc = .ok (.iastore, 1)) (hh : h a = some (.inl (0, N, .inl f))) (hi : vp_in i N) (K : Z Γ l M d mc ms FN (pc + 1) ls st (zu h a (.inl (0, N, .inl (upd f i.toNatClampNeg x)))) n k ks) : Z Γ l M d mc ms FN pc ls (.int x :: .int i :: .ref a :: st) h n k ks := fun p e R s m args below meth c lsA H locs B L P S => by
  obtain ⟨hx, hb, hml, hr, hown, hts, hlocks, hin, hxt, htr, hE, hbs, hR1, hR2, hR3, hR4⟩ := id B
  obtain ⟨hbase, hcell⟩ := P.2 a _ hh
  refine W.iast hx hb hcell ((hE.1.2 0 _ rfl).1 N (fun j => .int (f j))) (fun q => by cases q) (by show ¬ (i < 0 ∨ (arrV _ _ _).slots.size ≤ _); rw [arrV_size]; exact hi) rfl rfl hd fun H1 e1 z oq => ?_
  refine K p e R s m args below meth c lsA H1 _ B L (P.set hbase z oq ?_) (S.put z oq hbase)
  show H1[a]? = some (vp_cell _ _)
  rw [e1, vp_cell_i, vp_cell_i, arrV_store]
  congr 2
  funext q
  by_cases hq : q = i.toNatClampNeg
  · subst hq; simp [updV, upd]
  · simp [updV, upd, hq]
theorem zs_cast {Γ : zG} {l : Launch} {M : zM} {d mc ms : Nat} {FN : List Frame → Array Value → State → State → Prop} {pc : Nat} {ls : List (Option Value)} {st : List Value} {h : zH} {n k ks : Nat} {a N : Nat} {f : Nat → Int32} {i x : Int32} (hd : decode (zby M) pc = .ok (.castore, 1)) (hh : h a = some (.inl (1, N, .inl f))) (hi : vp_in i N) (K : Z Γ l M d mc ms FN (pc + 1) ls st (zu h a (.inl (1, N, .inl (upd f i.toNatClampNeg (vp_nar .char x))))) n k ks) : Z Γ l M d mc ms FN pc ls (.int x :: .int i :: .ref a :: st) h n k ks := fun p e R s m args below meth c lsA H locs B L P S => by
  obtain ⟨hx, hb, hml, hr, hown, hts, hlocks, hin, hxt, htr, hE, hbs, hR1, hR2, hR3, hR4⟩ := id B
  obtain ⟨hbase, hcell⟩ := P.2 a _ hh
  refine W.cast hx hb hcell ((hE.1.2 1 _ rfl).1 N (fun j => .int (f j))) (fun q => by cases q) (by show ¬ (i < 0 ∨ (arrV _ _ _).slots.size ≤ _); rw [arrV_size]; exact hi) rfl rfl hd fun H1 e1 z oq => ?_
  refine K p e R s m args below meth c lsA H1 _ B L (P.set hbase z oq ?_) (S.put z oq hbase)
  show H1[a]? = some (vp_cell _ _)
  rw [e1, vp_cell_i, vp_cell_i, arrV_store]
  congr 2
  funext q
  by_cases hq : q = i.toNatClampNeg
  · subst hq
    simp [updV, upd, vp_nar]
    try rfl
  · simp [updV, upd, hq]
theorem zs_last {Γ : zG} {l : Launch} {M : zM} {d mc ms : Nat} {FN : List Frame → Array Value → State → State → Prop} {pc : Nat} {ls : List (Option Value)} {st : List Value} {h : zH} {n k ks : Nat} {a N : Nat} {f : Nat → Int64} {i : Int32} {x : Int64} (hd : decode (zby M) pc = .ok (.lastore, 1)) (hh : h a = some (.inl (4, N, .inr (.inl f)))) (hi : vp_in i N) (K : Z Γ l M d mc ms FN (pc + 1) ls st (zu h a (.inl (4, N, .inr (.inl (vp_updL f i.toNatClampNeg x))))) n k ks) : Z Γ l M d mc ms FN pc ls (.long x :: .int i :: .ref a :: st) h n k ks := fun p e R s m args below meth c lsA H locs B L P S => by
  obtain ⟨hx, hb, hml, hr, hown, hts, hlocks, hin, hxt, htr, hE, hbs, hR1, hR2, hR3, hR4⟩ := id B
  obtain ⟨hbase, hcell⟩ := P.2 a _ hh
  refine W.last hx hb hcell ((hE.1.2 4 _ rfl).1 N (fun j => .long (f j))) (fun q => by cases q) (by show ¬ (i < 0 ∨ (arrV _ _ _).slots.size ≤ _); rw [arrV_size]; exact hi) rfl rfl hd fun H1 e1 z oq => ?_
  refine K p e R s m args below meth c lsA H1 _ B L (P.set hbase z oq ?_) (S.put z oq hbase)
  show H1[a]? = some (vp_cell _ _)
  rw [e1, vp_cell_l, vp_cell_l, arrV_store]
  congr 2
  funext q
  by_cases hq : q = i.toNatClampNeg
  · subst hq; simp [updV, vp_updL]
  · simp [updV, vp_updL, hq]
theorem zs_dast {Γ : zG} {l : Launch} {M : zM} {d mc ms : Nat} {FN : List Frame → Array Value → State → State → Prop} {pc : Nat} {ls : List (Option Value)} {st : List Value} {h : zH} {n k ks : Nat} {a N : Nat} {f : Nat → UInt64} {i : Int32} {x : UInt64} (hd : decode (zby M) pc = .ok (.dastore, 1)) (hh : h a = some (.inl (5, N, .inr (.inr (.inr (.inl f)))))) (hi : vp_in i N) (K : Z Γ l M d mc ms FN (pc + 1) ls st (zu h a (.inl (5, N, .inr (.inr (.inr (.inl (vf_upd f i.toNatClampNeg x))))))) n k ks) : Z Γ l M d mc ms FN pc ls (.double x :: .int i :: .ref a :: st) h n k ks := fun p e R s m args below meth c lsA H locs B L P S => by
  obtain ⟨hx, hb, hml, hr, hown, hts, hlocks, hin, hxt, htr, hE, hbs, hR1, hR2, hR3, hR4⟩ := id B
  obtain ⟨hbase, hcell⟩ := P.2 a _ hh
  refine W.dast hx hb hcell ((hE.1.2 5 _ rfl).1 N (fun j => .double (f j))) (fun q => by cases q) (by show ¬ (i < 0 ∨ (arrV _ _ _).slots.size ≤ _); rw [arrV_size]; exact hi) rfl rfl hd fun H1 e1 z oq => ?_
  refine K p e R s m args below meth c lsA H1 _ B L (P.set hbase z oq ?_) (S.put z oq hbase)
  show H1[a]? = some (vp_cell _ _)
  rw [e1, vp_cell_d, vp_cell_d, arrV_store]
  congr 2
  funext q
  by_cases hq : q = i.toNatClampNeg
  · subst hq; simp [updV, vf_upd]
  · simp [updV, vf_upd, hq]
theorem zs_aast {Γ : zG} {l : Launch} {M : zM} {d mc ms : Nat} {FN : List Frame → Array Value → State → State → Prop} {pc : Nat} {ls : List (Option Value)} {st : List Value} {h : zH} {n k ks : Nat} {kd a v N ci : Nat} {f : Nat → Option Nat} {i : Int32} {vs : List Value} {r : vw_C} (hd : decode (zby M) pc = .ok (.aastore, 1)) (hkd : kd < 6) (hh : h a = some (.inl (kd, N, .inr (.inr (.inr (.inr f)))))) (hv : h v = some (.inr (ci, vs))) (hc : zCl[ci]? = some r) (ht : zTy kd = .object r.1) (hi : vp_in i N) (K : Z Γ l M d mc ms FN (pc + 1) ls st (zu h a (.inl (kd, N, .inr (.inr (.inr (.inr (va_up f i.toNatClampNeg (some v)))))))) n k ks) : Z Γ l M d mc ms FN pc ls (.ref v :: .int i :: .ref a :: st) h n k ks := fun p e R s m args below meth c lsA H locs B L P S => by
  obtain ⟨hx, hb, hml, hr, hown, hts, hlocks, hin, hxt, htr, hE, hbs, hR1, hR2, hR3, hR4⟩ := id B
  have hlt : i.toNatClampNeg < N := Nat.not_le.mp fun q => hi (Or.inr q)
  have h0 : ¬ i < 0 := fun q => hi (Or.inl q)
  obtain ⟨hbase, hcell⟩ := P.2 a _ hh
  obtain ⟨hbase2, r', hr', cellV, g1, g2, g3, -⟩ := P.2 v _ hv
  have hcls := (hE.1.1 ci r hc).2
  have htt : (zTys Γ)[kd]? = some (zgA Γ kd, .object r.1) := by
    rw [← ht]
    match kd, hkd with
    | 0, _ => rfl
    | 1, _ => rfl
    | 2, _ => rfl
    | 3, _ => rfl
    | 4, _ => rfl
    | 5, _ => rfl
  obtain ⟨kA, comp, k1, k2, k3, -⟩ := (hE.1.2 kd _ htt).2
  have hcomp : comp = (zgD Γ).1 ci := Option.some.inj (k3.symm.trans hcls.1)
  subst hcomp
  obtain ⟨kC, hkC, -⟩ := hcls.2
  refine W.aast hx hb hcell (fun q h => by cases h) (fun h => by cases h) k1 k2 rfl hkC ⟨h0, by show _ < (arrV _ _ _).slots.size; rw [arrV_size]; exact hlt⟩ g1 (fun q h => by rw [g3] at h; cases h) (by rw [g2]; exact hkC) (by rw [g2]; exact va_assign hcls) rfl rfl hd fun H1 e1 z oq => ?_
  refine K p e R s m args below meth c lsA H1 _ B L (P.set hbase z oq ?_) (S.put z oq hbase)
  show H1[a]? = some (vp_cell _ _)
  rw [e1, vp_cell_q, vp_cell_q, arrV_store]
  congr 2
  funext q
  by_cases hq : q = i.toNatClampNeg
  · subst hq; simp [updV, va_up, va_rf]
  · simp [updV, va_up, hq]
/-! the script -/
theorem zs_sld {Γ : zG} {l : Launch} {M : zM} {d mc ms : Nat} {FN : List Frame → Array Value → State → State → Prop} {pc : Nat} {ls : List (Option Value)} {st : List Value} {h : zH} {n k ks : Nat} {i : Int32} (hd : decode (zby M) pc = .ok (.iaload, 1)) (hi : vp_in i (zgL Γ)) (K : Z Γ l M d mc ms FN (pc + 1) ls (.int (zgX Γ i.toNatClampNeg) :: st) h n k ks) : Z Γ l M d mc ms FN pc ls (.int i :: .ref (zgS Γ) :: st) h n k ks := fun p e R s m args below meth c lsA H locs B L P S => by
  obtain ⟨hx, hb, hml, hr, hown, hts, hlocks, hin, hxt, htr, hE, hbs, hR1, hR2, hR3, hR4⟩ := id B
  obtain ⟨-, -, -, -, -, -, -, h8, h9, h10⟩ := hE
  exact va_sld hx hb h8 h10 (fun q => Nat.not_le.mpr h9 q) S hi hd (K p e R s m args below meth c lsA H locs B L P S)
theorem zs_slen {Γ : zG} {l : Launch} {M : zM} {d mc ms : Nat} {FN : List Frame → Array Value → State → State → Prop} {pc : Nat} {ls : List (Option Value)} {st : List Value} {h : zH} {n k ks : Nat} (hd : decode (zby M) pc = .ok (.arraylength, 1)) (K : Z Γ l M d mc ms FN (pc + 1) ls (.int (nI (zgL Γ)) :: st) h n k ks) : Z Γ l M d mc ms FN pc ls (.ref (zgS Γ) :: st) h n k ks := fun p e R s m args below meth c lsA H locs B L P S => by
  obtain ⟨hx, hb, hml, hr, hown, hts, hlocks, hin, hxt, htr, hE, hbs, hR1, hR2, hR3, hR4⟩ := id B
  obtain ⟨-, -, -, -, -, -, -, h8, h9, h10⟩ := hE
  exact va_slen hx hb h8 h10 (fun q => Nat.not_le.mpr h9 q) S hd (K p e R s m args below meth c lsA H locs B L P S)
end ZHEAP
