section
/-! ===== BEGIN words of one list among another's, by their places ===== -/
theorem goodIn_r {big : List Cond} (ws : List Cond) (ps : List Nat) (hp : ws = ps.filterMap (fun i => big[i]?)) (h : ws.all goodWord = true) : GoodIn big ws := by
  intro w hw
  have h1 := List.all_eq_true.mp h w hw
  rw [hp] at hw
  obtain ⟨i, -, hi⟩ := List.mem_filterMap.mp hw
  have hm : w ∈ big := by first | exact List.mem_of_getElem? hi | exact List.getElem?_mem hi
  exact ⟨hm, good_of_word h1⟩
theorem goodIn_app {big a b : List Cond} (ha : GoodIn big a) (hb : GoodIn big b) : GoodIn big (a ++ b) := fun w h => (List.mem_append.mp h).elim (ha w) (hb w)
theorem goodIn_ca {big a b : List Cond} {c : Cond} (ha : GoodIn big (c :: a)) (hb : GoodIn big b) : GoodIn big (c :: (a ++ b)) := fun w h => (List.mem_cons.mp h).elim (fun e => ha w (List.mem_cons.mpr (Or.inl e))) (fun h => (List.mem_append.mp h).elim (fun h => ha w (List.mem_cons.mpr (Or.inr h))) (hb w))
theorem goodIn_sub {big ws : List Cond} (hm : ∀ w ∈ ws, w ∈ big) (h : ws.all goodWord = true) : GoodIn big ws := fun w hw => ⟨hm w hw, good_of_word (List.all_eq_true.mp h w hw)⟩
/-! ===== END ===== -/
/-! ===== BEGIN exceptions that leave a method, and their catching by the caller (launches without stack traces) ===== -/
section VXA
/-! The laws vx_back, vx_callV, vx_callS, vx_callSW, vx_throw0, vx_throwS follow proofs of the library, with one case more: JvmDerived/Free/Laws.lean (Back.of_free), Shelf42/LK1.lean (callV, callS), Shelf/KitTraced.lean (throwNew0V, throwNewS). -/
/-- where a method has thrown q: the class by its name, the cell, what was written, the world -/
def vx_T (XC : String → State → State → Prop) (st : State) (q : Addr) (t : State) (mc ms : Nat) (free : Addr → Prop) : Prop :=
  ∃ (E : String) (ce : Cell) (L : List Loc), XC E st t ∧ t.heap[q]? = some ce ∧ ce.vm = .none ∧ st.vm.findClass E = some ce.cls ∧ st.WarmedH t.vm ∧ st.sameButNew ({ t with vm := st.vm } : State) L mc ms ∧ ∀ z ∈ L, free z.base
def vx_Q (Qc : Array Value → State → Outcome → State → Prop) (XC : String → State → State → Prop) (mc ms : Nat) (free : Addr → Prop) : Array Value → State → Outcome → State → Prop := fun a st o t =>
  (Qc a st o t ∧ ∃ L, FrameEnd st o t L mc ms ∧ ∀ q ∈ L, free q.base) ∨ ∃ q, o = .threw q ∧ vx_T XC st q t mc ms free
/-- a callee that returns or throws -/
def vx_Met (l : Launch) (y : MethodName) (ws : List Cond) (rm : Room) (Pc : Array Value → State → Prop) (Qc : Array Value → State → Outcome → State → Prop) (XC : String → State → State → Prop) (mc ms : Nat) (free : Addr → Prop) : Prop :=
  MetFree l y (headSpec ws rm) Pc (fun _ _ _ _ _ => True) (vx_Q Qc XC mc ms free)
def vx_Post (XC : String → State → State → Prop) (mc ms : Nat) (free : Addr → Prop) : Pt → Array Value → Addr → Pt → Prop := fun A a q B =>
  ∃ (g : JFrame) (mk : MethodId) (t : State) (L : List Loc) (E : String) (ce : Cell), B.U.heap = t.heap ∧ B.U.vm = t.vm ∧ XC E (A.U.calling g mk a) t ∧ t.heap[q]? = some ce ∧ ce.vm = .none ∧ A.U.vm.findClass E = some ce.cls ∧ B.locs = A.locs ++ L ∧ (∀ z ∈ L, free z.base) ∧ B.cells = A.cells + mc ∧ B.slots = A.slots + ms
def vx_Back (l : Launch) (R : Room) (p : Program) (e : Env) (below : List Frame) (s : State) (sargs : Array Value) (y : MethodName) (len W9 : Nat)
    (Pre : Pt → Array Value → Prop) (Post : Pt → Array Value → Option Value → Pt → Prop) (PostX : Pt → Array Value → Addr → Pt → Prop) : Prop :=
  ∀ (m : MethodId) (meth : Method) (c : Code) (A : Pt) (g : JFrame) (ig : Instr) (mk : MethodId) (a : Array Value),
    Stand p l e R s m sargs below meth c A.U A.locs A.cells A.slots → g.method = m → g.locals.size = c.maxLocals → decode c.code g.pc = .ok (ig, len) →
    2 * g.monitorRoom + (g.stack.map fun v => v.category).sum ≤ W9 → A.U.methodNamed? y = some mk → Pre A a →
    (∃ (v : Option Value) (B : Pt), Stand p l e R s m sargs below meth c B.U B.locs B.cells B.slots ∧ Post A a v B ∧
      Steps p.tables e below (doInvoke e (A.U.setTop g) [] mk a).1 (B.U.setTop { g with pc := g.pc + len, stack := v.toList ++ g.stack })) ∨
    (∃ (q : Addr) (B : Pt), Stand p l e R s m sargs below meth c B.U B.locs B.cells B.slots ∧ PostX A a q B ∧
      Steps p.tables e below (doInvoke e (A.U.setTop g) [] mk a).1 ((B.U.setTop g).pushFrame (.throwing q)))
section Payer
variable {l : Launch} {R : Room} {p : Program} {e : Env} {below : List Frame} {s : State} {sargs : Array Value} {y : MethodName} {len W9 : Nat}
theorem vx_back {ws : List Cond} {rm : Room} {Pc : Array Value → State → Prop} {Qc : Array Value → State → Outcome → State → Prop} {XC : String → State → State → Prop} {mc ms : Nat} {free : Addr → Prop} {bytes : ByteArray} {maxL : Nat} {ret : Option FieldType}
    (hM : vx_Met l y ws rm Pc Qc XC mc ms free) (hblind : FrameBlind Pc) (hrc : rm.cells = mc) (hrs : rm.slots = ms)
    (hframes : rm.frames + 1 ≤ R.frames) (hlocals : W9 + (maxL + 11) + rm.locals ≤ R.locals)
    (hws : ∀ w ∈ ws, ∀ a' U, s.WarmedH U.vm → w.before a' U = true) (hcode : Cond.code y bytes maxL ret ∈ ws) (hinit : ∀ a' U, s.WarmedH U.vm → (Cond.initialized y.cls).before a' U = true) :
    vx_Back l R p e below s sargs y len W9 (PreOf R mc ms Pc) (PostOf Qc mc ms free) (vx_Post XC mc ms free) := by
  intro m meth c A g ig mk a X hg hsize hdg hW hn hp
  have h1 : (headSpec ws rm).pre.before a A.U = true := atoms_intro fun w hw => hws w hw _ _ X.warmed
  have h2 : (Cond.code y bytes maxL ret).before a A.U = true := hws _ hcode _ _ X.warmed
  have h3 : (Cond.initialized y.cls).before a A.U = true := hinit _ _ X.warmed
  have h4 : A.cells + (headSpec ws rm).room.cells ≤ R.cells := by rw [show (headSpec ws rm).room.cells = mc from hrc]; exact hp.1
  have h5 : A.slots + (headSpec ws rm).room.slots ≤ R.slots := by rw [show (headSpec ws rm).room.slots = ms from hrs]; exact hp.2.1
  have hPc : Pc a (A.U.calling g mk a) := hblind _ _ _ _ hp.2.2
  obtain ⟨U, Ls, c0, s0⟩ := A
  dsimp only [Pt.U, Pt.locs, Pt.cells, Pt.slots] at h1 h2 h3 h4 h5 X hn hPc ⊢
  obtain ⟨methY, cY, hmY, hcY, -, hlY, -, -, -, -⟩ := Cond.code_spec hn h2
  obtain ⟨kY, hkY, -⟩ := className_of_methodNamed hn
  have hinitY : kY.init = .initialized := Cond.initialized_spec (findClass_of_methodNamed hn) hkY h3
  have h : At U g.method c below := by rw [hg]; exact X.here
  have hlocals9 : W9 + (maxL + 11) + (headSpec ws rm).room.locals ≤ R.locals := hlocals
  have happ : (headSpec ws rm).appliesLoose y e.platform (U.calling g mk a) = true :=
    Spec.appliesLoose_calling (g := g) h hdg hn hkY hinitY
      (X.room_calling (g := g) (R' := (headSpec ws rm).room) hsize hmY hcY hframes (by rw [hlY]; omega) h4 h5) h1
  obtain ⟨mid, hmid⟩ := h.above
  have hfr : (U.setTop g).frames = (.java g :: mid) ++ below := by rw [State.frames_setTop' g h.top, hmid]; rfl
  obtain ⟨o, s₂, hsteps, -, hend, hq⟩ := Steps.callFree hM p X.admits X.cas X.clock (acts := []) hfr happ hPc trivial
  have hq' : vx_Q Qc XC mc ms free a (U.calling g mk a) o s₂ := hq
  rw [State.frames_setTop' g h.top] at hend
  obtain ⟨g₀, hg0⟩ := Option.isSome_iff_exists.mp h.top
  obtain ⟨r, hr⟩ := State.topJava?_eq_some.mp hg0
  have hr' : (({ U with heap := s₂.heap, slotsUsed := s₂.slotsUsed } : State).setVm s₂.vm).frames = .java g₀ :: r := hr
  rcases hq' with ⟨hqc, L, hfe, hL⟩ | ⟨q, rfl, E, ce, L, hx, hce, hcv, hcl, hW₂, hsm, hL⟩
  · obtain ⟨⟨v, rfl⟩, hW₂, e2, q2, q3, q4, q5, q6⟩ := id hfe
    have e3 : s₂ = ({ (U.calling g mk a).setFrames s₂.frames with heap := s₂.heap, slotsUsed := s₂.slotsUsed } : State).setVm s₂.vm := by
      have : s₂ = ({ s₂ with vm := (U.calling g mk a).vm } : State).setVm s₂.vm := rfl
      rw [e2] at this
      exact this
    obtain ⟨c₂, i₂, len₂, hc₂, hd₂, hf₂⟩ := hend
    have hW' : U.WarmedH s₂.vm := hW₂
    have hcc : c₂ = c := by
      have h1 : s₂.code? g.method = U.code? g.method := by
        rw [State.code?_eq, State.code?_eq, hW'.alike.method?]
      exact Option.some.inj (hc₂.symm.trans (h1.trans h.code))
    subst hcc
    have hlen : len₂ = len := by rw [hdg] at hd₂; cases hd₂; rfl
    subst hlen
    have hs₂ : s₂ = (({ U with heap := s₂.heap, slotsUsed := s₂.slotsUsed } : State).setVm s₂.vm).setTop { g with pc := g.pc + len₂, stack := v.toList ++ g.stack } := by
      refine e3.trans ?_
      rw [hf₂, State.calling_eq h.top, State.setFrames_setFrames, State.setTop_of_frames _ hr', hr]
      rfl
    have hsame : U.sameButNew ({ U with heap := s₂.heap, slotsUsed := s₂.slotsUsed } : State) L mc ms := by
      refine ⟨?_, q2, q3, q4, q5, q6⟩
      obtain ⟨t, ht, -⟩ := State.frames_cons hr
      show ({ U with heap := s₂.heap, slotsUsed := s₂.slotsUsed } : State) = { U.setFrames U.frames with heap := s₂.heap, slotsUsed := s₂.slotsUsed }
      rw [State.setFrames_self ht]
    subst hg
    refine Or.inl ⟨v, ⟨(({ U with heap := s₂.heap, slotsUsed := s₂.slotsUsed } : State).setVm s₂.vm), Ls ++ L, c0 + mc, s0 + ms⟩,
      ⟨X.admits, X.cas, X.clock, X.frames, X.room, X.hears, X.method, X.code, (X.here.setHeapUsed s₂.heap s₂.slotsUsed).setVm hW'.alike, X.tail, State.WarmedH.trans X.warmed hW', X.limits, X.bytes, X.same.trans (hsame.setVm s.vm)⟩,
      ⟨g, mk, s₂, L, rfl, rfl, hqc, rfl, hL, rfl, rfl⟩, ?_⟩
    show Steps p.tables e below _ ((({ U with heap := s₂.heap, slotsUsed := s₂.slotsUsed } : State).setVm s₂.vm).setTop { g with pc := g.pc + len₂, stack := v.toList ++ g.stack })
    rw [← hs₂]
    exact hsteps
  · obtain ⟨e2, q2, q3, q4, q5, q6⟩ := id hsm
    have e3 : s₂ = ({ (U.calling g mk a).setFrames s₂.frames with heap := s₂.heap, slotsUsed := s₂.slotsUsed } : State).setVm s₂.vm := by
      have : s₂ = ({ s₂ with vm := (U.calling g mk a).vm } : State).setVm s₂.vm := rfl
      rw [e2] at this
      exact this
    have hf₂ : s₂.frames = .throwing q :: .java g :: U.frames.tail := hend
    have hW' : U.WarmedH s₂.vm := hW₂
    have hs₂ : s₂ = ((({ U with heap := s₂.heap, slotsUsed := s₂.slotsUsed } : State).setVm s₂.vm).setTop g).pushFrame (.throwing q) := by
      refine e3.trans ?_
      rw [hf₂, State.calling_eq h.top, State.setFrames_setFrames, State.pushFrame, State.frames_setTop _ hr', State.setTop_of_frames _ hr', State.setFrames_setFrames, hr]
      rfl
    have hsame : U.sameButNew ({ U with heap := s₂.heap, slotsUsed := s₂.slotsUsed } : State) L mc ms := by
      refine ⟨?_, q2, q3, q4, q5, q6⟩
      obtain ⟨t, ht, -⟩ := State.frames_cons hr
      show ({ U with heap := s₂.heap, slotsUsed := s₂.slotsUsed } : State) = { U.setFrames U.frames with heap := s₂.heap, slotsUsed := s₂.slotsUsed }
      rw [State.setFrames_self ht]
    subst hg
    refine Or.inr ⟨q, ⟨(({ U with heap := s₂.heap, slotsUsed := s₂.slotsUsed } : State).setVm s₂.vm), Ls ++ L, c0 + mc, s0 + ms⟩,
      ⟨X.admits, X.cas, X.clock, X.frames, X.room, X.hears, X.method, X.code, (X.here.setHeapUsed s₂.heap s₂.slotsUsed).setVm hW'.alike, X.tail, State.WarmedH.trans X.warmed hW', X.limits, X.bytes, X.same.trans (hsame.setVm s.vm)⟩,
      ⟨g, mk, s₂, L, E, ce, rfl, rfl, hx, hce, hcv, hcl, rfl, hL, rfl, rfl⟩, ?_⟩
    show Steps p.tables e below _ (((({ U with heap := s₂.heap, slotsUsed := s₂.slotsUsed } : State).setVm s₂.vm).setTop g).pushFrame (.throwing q))
    rw [← hs₂]
    exact hsteps
end Payer
section Calls
variable {p : Program} {l : Launch} {e : Env} {R : Room} {s : State} {m : MethodId} {args : Array Value} {below : List Frame} {meth : Method} {c : Code} {T : State} {locs : List Loc} {cells slots : Nat}
theorem vx_callV (X : Stand p l e R s m args below meth c T locs cells slots) (hexec : p.tables.exec = Jvm.exec) {own C : String} {index : Nat} {y : MethodName} {bytes : ByteArray} {maxL : Nat} {ret : Option FieldType}
    (hown : s.vm.findClass own = some m.cls) (hlink : (Cond.methodLink own index y).before args s = true) (hinst : (Cond.instanceMethod y).before args s = true) (hsel : (Cond.selects C y y).before args s = true)
    (hcode : (Cond.code y bytes maxL ret).before args s = true) (hy : y.cls ≠ "java/lang/invoke/MethodHandle" ∧ y.cls ≠ "java/lang/invoke/VarHandle")
    {W9 : Nat} {Pre : Pt → Array Value → Prop} {Post : Pt → Array Value → Option Value → Pt → Prop} {PostX : Pt → Array Value → Addr → Pt → Prop} (hK : vx_Back l R p e below s args y 3 W9 Pre Post PostX)
    {b : Addr} {cellB : Cell} (hcell : T.heap[b]? = some cellB) (hobj : cellB.vm.isStatics = false) (hcls : s.vm.findClass C = some cellB.cls)
    {g : JFrame} (hg : g.method = m) (hsize : g.locals.size = c.maxLocals) {argsL rest : List Value} (hlen : ∀ sig, parseMethodDescriptor y.desc = some sig → argsL.length = sig.parameters.length)
    (hstack : g.stack = argsL.reverse ++ .ref b :: rest) (hW : 2 * g.monitorRoom + (rest.map fun v => v.category).sum ≤ W9) (hdg : decode c.code g.pc = .ok (.invokevirtual index, 3))
    (hpre : ∀ vm₁, s.WarmedH vm₁ → Pre ⟨T.setVm vm₁, locs, cells, slots⟩ (Value.ref b :: argsL).toArray) :
    (∃ (v : Option Value) (vm₁ : Vm) (B : Pt), s.WarmedH vm₁ ∧ Stand p l e R s m args below meth c B.U B.locs B.cells B.slots ∧ Post ⟨T.setVm vm₁, locs, cells, slots⟩ (Value.ref b :: argsL).toArray v B ∧
      ∀ target, Steps p.tables e below (B.U.setTop { g with pc := g.pc + 3, stack := v.toList ++ rest }) target → Steps p.tables e below (T.setTop g) target) ∨
    (∃ (q : Addr) (vm₁ : Vm) (B : Pt), s.WarmedH vm₁ ∧ Stand p l e R s m args below meth c B.U B.locs B.cells B.slots ∧ PostX ⟨T.setVm vm₁, locs, cells, slots⟩ (Value.ref b :: argsL).toArray q B ∧
      Steps p.tables e below (T.setTop g) ((B.U.setTop { g with stack := rest }).pushFrame (.throwing q))) := by
  obtain ⟨mk, methM, hnamed, hmethM, hstM, habM⟩ := Cond.instanceMethod_spec hinst
  obtain ⟨methM', cM, hmethM', -, -, -, -, -, -, hsigM⟩ := Cond.code_spec hnamed hcode
  cases hmethM.symm.trans hmethM'
  obtain ⟨c2, r2, m2, q1, q2, q3, q4, kP, hkP, hkPi⟩ := Cond.selects_spec hsel
  cases hcls.symm.trans q1
  cases (State.methodFound?_of_named hnamed hy).symm.trans q2
  cases hnamed.symm.trans q3
  have hselP : selectMethod e.platform s.vm cellB.cls mk = .method mk := by rw [Launch.admits_selectMethod X.admits]; exact q4
  obtain ⟨vm₁, X₁, hstep₁⟩ := X.invokevirtual hexec hown hlink hnamed hmethM hstM hkP hkPi hy (a := b) (cell := cellB) hcell
    (fun z h => by rw [h] at hobj; cases hobj) hselP hmethM habM hkP hkPi (g := g) hg (argsL := argsL) (rest := rest) (hlen _ hsigM) hstack hdg
  rcases hK m meth c ⟨T.setVm vm₁, locs, cells, slots⟩ { g with stack := rest } (.invokevirtual index) mk (Value.ref b :: argsL).toArray X₁ hg hsize hdg hW (X₁.named hnamed) (hpre vm₁ X₁.warmed) with ⟨v, B, X', hpost, hsteps⟩ | ⟨q, B, X', hpost, hsteps⟩
  · exact Or.inl ⟨v, vm₁, B, X₁.warmed, X', hpost, fun target h => hstep₁ _ fun acts => by rw [doInvoke_state]; exact hsteps.trans h⟩
  · exact Or.inr ⟨q, vm₁, B, X₁.warmed, X', hpost, hstep₁ _ fun acts => by rw [doInvoke_state]; exact hsteps⟩
theorem vx_callS (X : Stand p l e R s m args below meth c T locs cells slots) (hexec : p.tables.exec = Jvm.exec) {own : String} {index : Nat} {y : MethodName} {bytes : ByteArray} {maxL : Nat} {ret : Option FieldType}
    (hown : s.vm.findClass own = some m.cls) (hlink : (Cond.methodLink own index y).before args s = true) (hstat : (Cond.static y).before args s = true) (hinit : (Cond.initialized y.cls).before args s = true)
    (hcode : (Cond.code y bytes maxL ret).before args s = true) (hy : y.cls ≠ "java/lang/invoke/MethodHandle" ∧ y.cls ≠ "java/lang/invoke/VarHandle")
    {W9 : Nat} {Pre : Pt → Array Value → Prop} {Post : Pt → Array Value → Option Value → Pt → Prop} {PostX : Pt → Array Value → Addr → Pt → Prop} (hK : vx_Back l R p e below s args y 3 W9 Pre Post PostX)
    {g : JFrame} (hg : g.method = m) (hsize : g.locals.size = c.maxLocals) {argsL rest : List Value} (hlen : ∀ sig, parseMethodDescriptor y.desc = some sig → argsL.length = sig.parameters.length)
    (hstack : g.stack = argsL.reverse ++ rest) (hW : 2 * g.monitorRoom + (rest.map fun v => v.category).sum ≤ W9) (hdg : decode c.code g.pc = .ok (.invokestatic index, 3))
    (hpre : ∀ vm₁, s.WarmedH vm₁ → Pre ⟨T.setVm vm₁, locs, cells, slots⟩ argsL.toArray) :
    (∃ (v : Option Value) (vm₁ : Vm) (B : Pt), s.WarmedH vm₁ ∧ Stand p l e R s m args below meth c B.U B.locs B.cells B.slots ∧ Post ⟨T.setVm vm₁, locs, cells, slots⟩ argsL.toArray v B ∧
      ∀ target, Steps p.tables e below (B.U.setTop { g with pc := g.pc + 3, stack := v.toList ++ rest }) target → Steps p.tables e below (T.setTop g) target) ∨
    (∃ (q : Addr) (vm₁ : Vm) (B : Pt), s.WarmedH vm₁ ∧ Stand p l e R s m args below meth c B.U B.locs B.cells B.slots ∧ PostX ⟨T.setVm vm₁, locs, cells, slots⟩ argsL.toArray q B ∧
      Steps p.tables e below (T.setTop g) ((B.U.setTop { g with stack := rest }).pushFrame (.throwing q))) := by
  obtain ⟨mk, hnamed⟩ := Cond.code_named hcode
  obtain ⟨methM, cM, hmethM, -, -, -, -, -, -, hsigM⟩ := Cond.code_spec hnamed hcode
  have hstatic : methM.isStatic = true := Cond.static_spec hnamed hmethM hstat
  obtain ⟨kP, hkP, -⟩ := className_of_methodNamed hnamed
  have hinitP : kP.init = .initialized := Cond.initialized_spec (findClass_of_methodNamed hnamed) hkP hinit
  obtain ⟨vm₁, X₁, hstep₁⟩ := X.invokestatic hexec hown hlink hnamed hmethM hstatic hkP hinitP hy (g := g) hg (argsL := argsL) (rest := rest) (hlen _ hsigM) hstack hdg
  rcases hK m meth c ⟨T.setVm vm₁, locs, cells, slots⟩ { g with stack := rest } (.invokestatic index) mk argsL.toArray X₁ hg hsize hdg hW (X₁.named hnamed) (hpre vm₁ X₁.warmed) with ⟨v, B, X', hpost, hsteps⟩ | ⟨q, B, X', hpost, hsteps⟩
  · exact Or.inl ⟨v, vm₁, B, X₁.warmed, X', hpost, fun target h => hstep₁ _ fun acts => by rw [doInvoke_state]; exact hsteps.trans h⟩
  · exact Or.inr ⟨q, vm₁, B, X₁.warmed, X', hpost, hstep₁ _ fun acts => by rw [doInvoke_state]; exact hsteps⟩
end Calls
theorem vx_cls {s : State} {T : State} {vm₁ : Vm} {E : String} {k : ClassId} (hW : s.WarmedH vm₁) (h : (T.setVm vm₁).vm.findClass E = some k) : s.vm.findClass E = some k := by
  have h1 : vm₁.findClass E = some k := h
  rw [hW.alike.findClass] at h1
  exact h1
/-- the method's frame g, with q thrown over it -/
def vx_W (p : Program) (l : Launch) (e : Env) (R : Room) (s : State) (m : MethodId) (args : Array Value) (below : List Frame) (meth : Method) (c : Code) (H : Heap) (locs : List Loc) (cells slots : Nat) (Q : State → Prop) (g : JFrame) (q : Addr) : Prop :=
  ∀ T : State, T.heap = H → Stand p l e R s m args below meth c T locs cells slots → ∃ t, Steps p.tables e below ((T.setTop g).pushFrame (.throwing q)) t ∧ Q t
def vx_Run (p : Program) (l : Launch) (e : Env) (R : Room) (s : State) (m : MethodId) (args : Array Value) (below : List Frame) (meth : Method) (c : Code) (H : Heap) (locs : List Loc) (cells slots mc ms : Nat) (g : JFrame) (rest : List Value) (Qa : State → Outcome → State → Prop) (XC : String → State → State → Prop) (free : Addr → Prop) : Prop :=
  ∀ T : State, T.heap = H → Stand p l e R s m args below meth c T locs cells slots →
    (∃ (v : Option Value) (st₀ t T' : State) (L : List Loc), st₀.heap = H ∧ Stand p l e R s m args below meth c T' (locs ++ L) (cells + mc) (slots + ms) ∧ (∀ q ∈ L, free q.base) ∧ T'.heap = t.heap ∧ T'.vm = t.vm ∧ Qa st₀ (.returned v) t ∧
      Goes p e below T g T' { g with pc := g.pc + 3, stack := v.toList ++ rest }) ∨
    (∃ (q : Addr) (st₀ t T' : State) (L : List Loc) (E : String) (ce : Cell), st₀.heap = H ∧ Stand p l e R s m args below meth c T' (locs ++ L) (cells + mc) (slots + ms) ∧ (∀ z ∈ L, free z.base) ∧ T'.heap = t.heap ∧ T'.vm = t.vm ∧ XC E st₀ t ∧ t.heap[q]? = some ce ∧ ce.vm = .none ∧ s.vm.findClass E = some ce.cls ∧
      Steps p.tables e below (T.setTop g) ((T'.setTop { g with stack := rest }).pushFrame (.throwing q)))
def vx_X {S : Type} (px : S → Prop) (B : String → S → State → Prop) (A : Nat → Prop) : String → State → State → Prop := fun E st t => ∃ u : S, px u ∧ B E u t ∧ va_F A st t
section Runs
variable {p : Program} {l : Launch} {e : Env} {R : Room} {s : State} {m : MethodId} {args : Array Value} {below : List Frame} {meth : Method} {c : Code} {H : Heap} {locs : List Loc} {cells slots : Nat}
variable {y : MethodName} {bytes cc : ByteArray} {maxL nL mc ms n index : Nat} {ret : Option FieldType} {ws : List Cond} {rm : Room} {Pc : Array Value → State → Prop} {Qc : Array Value → State → Outcome → State → Prop} {XC : String → State → State → Prop} {free : Addr → Prop} {Ts : List Cond} {own C : String} {b : Addr} {As rest : List Value} {g : JFrame}
theorem vx_callBack (cb : CallB R s args own index y bytes maxL ret ws rm mc ms n) (hM : vx_Met l y ws rm Pc Qc XC mc ms free) (hbl : FrameBlind Pc) : vx_Back l R p e below s args y 3 8 (PreOf R mc ms Pc) (PostOf Qc mc ms free) (vx_Post XC mc ms free) := by
  obtain ⟨hrc, hrs, hfr, hlo, hws, hcw, -, hini, -⟩ := cb
  exact vx_back (bytes := bytes) (maxL := maxL) (ret := ret) hM hbl hrc hrs hfr hlo hws hcw (fun a' U hW => word_at hW (Or.inl (by first | rfl | simp [Cond.onTables, Cond.keeps, Cond.steady])) hini)
theorem vx_runV (S : CallFix p m c cc nL s args Ts own) (hM : vx_Met l y ws rm Pc Qc XC mc ms free) (cw : CallW R s args own C index y bytes maxL ret ws rm mc ms n) (hp : PreV s H C b Pc As)
    (hg : g.method = m) (hn : As.length = n) (hsize : g.locals.size = nL) (hstack : g.stack = As.reverse ++ .ref b :: rest) (hW : 2 * g.monitorRoom + (rest.map fun v => v.category).sum ≤ 8) (hdg : decode cc g.pc = .ok (.invokevirtual index, 3)) (hf : cells + mc ≤ R.cells ∧ slots + ms ≤ R.slots) :
    vx_Run p l e R s m args below meth c H locs cells slots mc ms g rest (Qc (Value.ref b :: As).toArray) XC free := by
  have hK : vx_Back l R p e below s args y 3 8 (PreOf R mc ms Pc) (PostOf Qc mc ms free) (vx_Post XC mc ms free) := vx_callBack cw.1 hM hp.1
  obtain ⟨⟨-, -, -, -, -, -, hcode, -, hy, hlen, hl⟩, hin, hse⟩ := cw
  obtain ⟨hx, hb, hml, ho, -⟩ := S
  obtain ⟨-, ⟨cellB, hcB, hoB, hclB⟩, hPc⟩ := hp
  intro T hT X
  rcases vx_callV X hx (C := C) (bytes := bytes) (maxL := maxL) (ret := ret) ho hl hin hse hcode hy hK (by rw [hT]; exact hcB) hoB hclB hg (hsize.trans hml.symm) (argsL := As) (rest := rest) (fun sig h => hn.trans (hlen sig h)) hstack hW (by rw [hb]; exact hdg)
    (fun vm₁ hW₁ => ⟨hf.1, hf.2, hPc (T.setVm vm₁) hT hW₁⟩) with ⟨v, vm₁, ⟨U', l2, c2, s2⟩, hW₁, X', ⟨g', mk, t, L, e1, e2, hq, h1, hL, h2, h3⟩, st⟩ | ⟨q, vm₁, ⟨U', l2, c2, s2⟩, hW₁, X', ⟨g', mk, t, L, E, ce, e1, e2, hq, hce, hcv, hcl, h1, hL, h2, h3⟩, st⟩
  · dsimp only [Pt.U, Pt.locs, Pt.cells, Pt.slots] at X' e1 e2 h1 h2 h3 st
    subst h1; subst h2; subst h3
    exact Or.inl ⟨v, (T.setVm vm₁).calling g' mk (Value.ref b :: As).toArray, t, U', L, hT, X', hL, e1, e2, hq, st⟩
  · dsimp only [Pt.U, Pt.locs, Pt.cells, Pt.slots] at X' e1 e2 h1 h2 h3 st hcl
    subst h1; subst h2; subst h3
    exact Or.inr ⟨q, (T.setVm vm₁).calling g' mk (Value.ref b :: As).toArray, t, U', L, E, ce, hT, X', hL, e1, e2, hq, hce, hcv, vx_cls hW₁ hcl, st⟩
theorem vx_runS (S : CallFix p m c cc nL s args Ts own) (hM : vx_Met l y ws rm Pc Qc XC mc ms free) (cw : CallB R s args own index y bytes maxL ret ws rm mc ms n ∧ (Cond.static y).before args s = true) (hp : PreS s H Pc As)
    (hg : g.method = m) (hn : As.length = n) (hsize : g.locals.size = nL) (hstack : g.stack = As.reverse ++ rest) (hW : 2 * g.monitorRoom + (rest.map fun v => v.category).sum ≤ 8) (hdg : decode cc g.pc = .ok (.invokestatic index, 3)) (hf : cells + mc ≤ R.cells ∧ slots + ms ≤ R.slots) :
    vx_Run p l e R s m args below meth c H locs cells slots mc ms g rest (Qc As.toArray) XC free := by
  have hK : vx_Back l R p e below s args y 3 8 (PreOf R mc ms Pc) (PostOf Qc mc ms free) (vx_Post XC mc ms free) := vx_callBack cw.1 hM hp.1
  obtain ⟨⟨-, -, -, -, -, -, hcode, hini, hy, hlen, hl⟩, hstt⟩ := cw
  obtain ⟨hx, hb, hml, ho, -⟩ := S
  intro T hT X
  rcases vx_callS X hx (bytes := bytes) (maxL := maxL) (ret := ret) ho hl hstt hini hcode hy hK hg (hsize.trans hml.symm) (argsL := As) (rest := rest) (fun sig h => hn.trans (hlen sig h)) hstack hW (by rw [hb]; exact hdg)
    (fun vm₁ hW₁ => ⟨hf.1, hf.2, hp.2 (T.setVm vm₁) hT hW₁⟩) with ⟨v, vm₁, ⟨U', l2, c2, s2⟩, hW₁, X', ⟨g', mk, t, L, e1, e2, hq, h1, hL, h2, h3⟩, st⟩ | ⟨q, vm₁, ⟨U', l2, c2, s2⟩, hW₁, X', ⟨g', mk, t, L, E, ce, e1, e2, hq, hce, hcv, hcl, h1, hL, h2, h3⟩, st⟩
  · dsimp only [Pt.U, Pt.locs, Pt.cells, Pt.slots] at X' e1 e2 h1 h2 h3 st
    subst h1; subst h2; subst h3
    exact Or.inl ⟨v, (T.setVm vm₁).calling g' mk As.toArray, t, U', L, hT, X', hL, e1, e2, hq, st⟩
  · dsimp only [Pt.U, Pt.locs, Pt.cells, Pt.slots] at X' e1 e2 h1 h2 h3 st hcl
    subst h1; subst h2; subst h3
    exact Or.inr ⟨q, (T.setVm vm₁).calling g' mk As.toArray, t, U', L, E, ce, hT, X', hL, e1, e2, hq, hce, hcv, vx_cls hW₁ hcl, st⟩
end Runs
section Rows
variable {p : Program} {l : Launch} {e : Env} {R : Room} {s : State} {m : MethodId} {args : Array Value} {below : List Frame} {meth : Method} {c : Code} {H : Heap} {locs : List Loc} {cells slots : Nat} {Q : State → Prop}
variable {mc ms : Nat} {free : Addr → Prop} {A0 A1 : Nat → Prop} {H0 : Heap} {a : Array Value} {pc : Nat} {ls : Array Slot} {st0 rest : List Value}
theorem vx_keep {st₀ t T' : State} {L : List Loc} (h0 : st₀.heap = H) (e1 : T'.heap = t.heap) (hS : va_S A0 H0 H locs) (hA : ∀ q, q < H.size → A1 q → A0 q) (hf : ∀ q, free q → A0 q) (hL : ∀ q ∈ L, free q.base) (hF : va_F A1 st₀ t) :
    H.size ≤ T'.heap.size ∧ (∀ q : Nat, q < H.size → ¬ A1 q → T'.heap[q]? = H[q]?) ∧ va_S A0 H0 T'.heap (locs ++ L) := by
  obtain ⟨hz, hk⟩ := hF
  rw [h0] at hz hk
  exact ⟨by rw [e1]; exact hz, fun q h1 h2 => by rw [e1]; exact hk q h1 h2,
    ⟨Nat.le_trans hS.1 (by rw [e1]; exact hz), fun q h1 h2 => by rw [e1, hk q (Nat.lt_of_lt_of_le h1 hS.1) (fun z => h2 (hA q (Nat.lt_of_lt_of_le h1 hS.1) z))]; exact hS.2.1 q h1 h2, fun q hq => by
      rcases List.mem_append.mp hq with h | h
      · exact hS.2.2 q h
      · exact hf _ (hL q h)⟩⟩
theorem vx_calli {S SX : Type} {post : Int32 → S → Prop} {px : SX → Prop} {B : S → State → Prop} {BX : String → SX → State → Prop} {AX : Nat → Prop} (hr : vx_Run p l e R s m args below meth c H locs cells slots mc ms (F0 m pc ls st0) rest (va_Qi post B A1 a) (vx_X px BX AX) free) (hS : va_S A0 H0 H locs) (hA : ∀ q, q < H.size → A1 q → A0 q) (hf : ∀ q, free q → A0 q) (hAX : ∀ q, q < H.size → AX q → A0 q)
    (kx : ∀ (E : String) (ce : Cell) (q9 : Addr) (u : SX) (t : State) (H1 : Heap) (locs1 : List Loc), t.heap = H1 → s.vm.Alike t.vm → px u → BX E u t → H.size ≤ H1.size → (∀ q : Nat, q < H.size → ¬ AX q → H1[q]? = H[q]?) → va_S A0 H0 H1 locs1 → H1[q9]? = some ce → ce.vm = .none → s.vm.findClass E = some ce.cls → vx_W p l e R s m args below meth c H1 locs1 (cells + mc) (slots + ms) Q (F0 m pc ls rest) q9)
    (kk : ∀ (r : Int32) (u : S) (t : State) (H1 : Heap) (locs1 : List Loc), t.heap = H1 → s.vm.Alike t.vm → post r u → B u t → H.size ≤ H1.size → (∀ q : Nat, q < H.size → ¬ A1 q → H1[q]? = H[q]?) → va_S A0 H0 H1 locs1 → W p l e R s m args below meth c H1 locs1 (cells + mc) (slots + ms) Q (F0 m (pc + 3) ls (.int r :: rest))) : W p l e R s m args below meth c H locs cells slots Q (F0 m pc ls st0) := by
  intro T hT X
  rcases hr T hT X with ⟨v, st₀, t, T', L, h0, X', hL, e1, e2, ⟨⟨r, u, hv, hp, hb⟩, hF⟩, st⟩ | ⟨q, st₀, t, T', L, E, ce, h0, X', hL, e1, e2, ⟨u, hp, hb, hF⟩, hce, hcv, hcl, st⟩
  · cases hv
    obtain ⟨k1, k2, k3⟩ := vx_keep h0 e1 hS hA hf hL hF
    obtain ⟨t2, a1, b1⟩ := kk r u t T'.heap (locs ++ L) e1.symm (by rw [← e2]; exact X'.warmed.alike) hp hb k1 k2 k3 T' rfl X'
    exact ⟨t2, st t2 a1, b1⟩
  · obtain ⟨k1, k2, k3⟩ := vx_keep h0 e1 hS hAX hf hL hF
    obtain ⟨t2, a1, b1⟩ := kx E ce q u t T'.heap (locs ++ L) e1.symm (by rw [← e2]; exact X'.warmed.alike) hp hb k1 k2 k3 (by rw [e1]; exact hce) hcv hcl T' rfl X'
    exact ⟨t2, st.trans a1, b1⟩
theorem vx_calll {S SX : Type} {post : Int64 → S → Prop} {px : SX → Prop} {B : S → State → Prop} {BX : String → SX → State → Prop} {AX : Nat → Prop} (hr : vx_Run p l e R s m args below meth c H locs cells slots mc ms (F0 m pc ls st0) rest (va_Ql post B A1 a) (vx_X px BX AX) free) (hS : va_S A0 H0 H locs) (hA : ∀ q, q < H.size → A1 q → A0 q) (hf : ∀ q, free q → A0 q) (hAX : ∀ q, q < H.size → AX q → A0 q)
    (kx : ∀ (E : String) (ce : Cell) (q9 : Addr) (u : SX) (t : State) (H1 : Heap) (locs1 : List Loc), t.heap = H1 → s.vm.Alike t.vm → px u → BX E u t → H.size ≤ H1.size → (∀ q : Nat, q < H.size → ¬ AX q → H1[q]? = H[q]?) → va_S A0 H0 H1 locs1 → H1[q9]? = some ce → ce.vm = .none → s.vm.findClass E = some ce.cls → vx_W p l e R s m args below meth c H1 locs1 (cells + mc) (slots + ms) Q (F0 m pc ls rest) q9)
    (kk : ∀ (r : Int64) (u : S) (t : State) (H1 : Heap) (locs1 : List Loc), t.heap = H1 → s.vm.Alike t.vm → post r u → B u t → H.size ≤ H1.size → (∀ q : Nat, q < H.size → ¬ A1 q → H1[q]? = H[q]?) → va_S A0 H0 H1 locs1 → W p l e R s m args below meth c H1 locs1 (cells + mc) (slots + ms) Q (F0 m (pc + 3) ls (.long r :: rest))) : W p l e R s m args below meth c H locs cells slots Q (F0 m pc ls st0) := by
  intro T hT X
  rcases hr T hT X with ⟨v, st₀, t, T', L, h0, X', hL, e1, e2, ⟨⟨r, u, hv, hp, hb⟩, hF⟩, st⟩ | ⟨q, st₀, t, T', L, E, ce, h0, X', hL, e1, e2, ⟨u, hp, hb, hF⟩, hce, hcv, hcl, st⟩
  · cases hv
    obtain ⟨k1, k2, k3⟩ := vx_keep h0 e1 hS hA hf hL hF
    obtain ⟨t2, a1, b1⟩ := kk r u t T'.heap (locs ++ L) e1.symm (by rw [← e2]; exact X'.warmed.alike) hp hb k1 k2 k3 T' rfl X'
    exact ⟨t2, st t2 a1, b1⟩
  · obtain ⟨k1, k2, k3⟩ := vx_keep h0 e1 hS hAX hf hL hF
    obtain ⟨t2, a1, b1⟩ := kx E ce q u t T'.heap (locs ++ L) e1.symm (by rw [← e2]; exact X'.warmed.alike) hp hb k1 k2 k3 (by rw [e1]; exact hce) hcv hcl T' rfl X'
    exact ⟨t2, st.trans a1, b1⟩
theorem vx_callf {S SX : Type} {post : UInt32 → S → Prop} {px : SX → Prop} {B : S → State → Prop} {BX : String → SX → State → Prop} {AX : Nat → Prop} (hr : vx_Run p l e R s m args below meth c H locs cells slots mc ms (F0 m pc ls st0) rest (va_Qf post B A1 a) (vx_X px BX AX) free) (hS : va_S A0 H0 H locs) (hA : ∀ q, q < H.size → A1 q → A0 q) (hf : ∀ q, free q → A0 q) (hAX : ∀ q, q < H.size → AX q → A0 q)
    (kx : ∀ (E : String) (ce : Cell) (q9 : Addr) (u : SX) (t : State) (H1 : Heap) (locs1 : List Loc), t.heap = H1 → s.vm.Alike t.vm → px u → BX E u t → H.size ≤ H1.size → (∀ q : Nat, q < H.size → ¬ AX q → H1[q]? = H[q]?) → va_S A0 H0 H1 locs1 → H1[q9]? = some ce → ce.vm = .none → s.vm.findClass E = some ce.cls → vx_W p l e R s m args below meth c H1 locs1 (cells + mc) (slots + ms) Q (F0 m pc ls rest) q9)
    (kk : ∀ (r : UInt32) (u : S) (t : State) (H1 : Heap) (locs1 : List Loc), t.heap = H1 → s.vm.Alike t.vm → post r u → B u t → H.size ≤ H1.size → (∀ q : Nat, q < H.size → ¬ A1 q → H1[q]? = H[q]?) → va_S A0 H0 H1 locs1 → W p l e R s m args below meth c H1 locs1 (cells + mc) (slots + ms) Q (F0 m (pc + 3) ls (.float r :: rest))) : W p l e R s m args below meth c H locs cells slots Q (F0 m pc ls st0) := by
  intro T hT X
  rcases hr T hT X with ⟨v, st₀, t, T', L, h0, X', hL, e1, e2, ⟨⟨r, u, hv, hp, hb⟩, hF⟩, st⟩ | ⟨q, st₀, t, T', L, E, ce, h0, X', hL, e1, e2, ⟨u, hp, hb, hF⟩, hce, hcv, hcl, st⟩
  · cases hv
    obtain ⟨k1, k2, k3⟩ := vx_keep h0 e1 hS hA hf hL hF
    obtain ⟨t2, a1, b1⟩ := kk r u t T'.heap (locs ++ L) e1.symm (by rw [← e2]; exact X'.warmed.alike) hp hb k1 k2 k3 T' rfl X'
    exact ⟨t2, st t2 a1, b1⟩
  · obtain ⟨k1, k2, k3⟩ := vx_keep h0 e1 hS hAX hf hL hF
    obtain ⟨t2, a1, b1⟩ := kx E ce q u t T'.heap (locs ++ L) e1.symm (by rw [← e2]; exact X'.warmed.alike) hp hb k1 k2 k3 (by rw [e1]; exact hce) hcv hcl T' rfl X'
    exact ⟨t2, st.trans a1, b1⟩
theorem vx_calld {S SX : Type} {post : UInt64 → S → Prop} {px : SX → Prop} {B : S → State → Prop} {BX : String → SX → State → Prop} {AX : Nat → Prop} (hr : vx_Run p l e R s m args below meth c H locs cells slots mc ms (F0 m pc ls st0) rest (va_Qd post B A1 a) (vx_X px BX AX) free) (hS : va_S A0 H0 H locs) (hA : ∀ q, q < H.size → A1 q → A0 q) (hf : ∀ q, free q → A0 q) (hAX : ∀ q, q < H.size → AX q → A0 q)
    (kx : ∀ (E : String) (ce : Cell) (q9 : Addr) (u : SX) (t : State) (H1 : Heap) (locs1 : List Loc), t.heap = H1 → s.vm.Alike t.vm → px u → BX E u t → H.size ≤ H1.size → (∀ q : Nat, q < H.size → ¬ AX q → H1[q]? = H[q]?) → va_S A0 H0 H1 locs1 → H1[q9]? = some ce → ce.vm = .none → s.vm.findClass E = some ce.cls → vx_W p l e R s m args below meth c H1 locs1 (cells + mc) (slots + ms) Q (F0 m pc ls rest) q9)
    (kk : ∀ (r : UInt64) (u : S) (t : State) (H1 : Heap) (locs1 : List Loc), t.heap = H1 → s.vm.Alike t.vm → post r u → B u t → H.size ≤ H1.size → (∀ q : Nat, q < H.size → ¬ A1 q → H1[q]? = H[q]?) → va_S A0 H0 H1 locs1 → W p l e R s m args below meth c H1 locs1 (cells + mc) (slots + ms) Q (F0 m (pc + 3) ls (.double r :: rest))) : W p l e R s m args below meth c H locs cells slots Q (F0 m pc ls st0) := by
  intro T hT X
  rcases hr T hT X with ⟨v, st₀, t, T', L, h0, X', hL, e1, e2, ⟨⟨r, u, hv, hp, hb⟩, hF⟩, st⟩ | ⟨q, st₀, t, T', L, E, ce, h0, X', hL, e1, e2, ⟨u, hp, hb, hF⟩, hce, hcv, hcl, st⟩
  · cases hv
    obtain ⟨k1, k2, k3⟩ := vx_keep h0 e1 hS hA hf hL hF
    obtain ⟨t2, a1, b1⟩ := kk r u t T'.heap (locs ++ L) e1.symm (by rw [← e2]; exact X'.warmed.alike) hp hb k1 k2 k3 T' rfl X'
    exact ⟨t2, st t2 a1, b1⟩
  · obtain ⟨k1, k2, k3⟩ := vx_keep h0 e1 hS hAX hf hL hF
    obtain ⟨t2, a1, b1⟩ := kx E ce q u t T'.heap (locs ++ L) e1.symm (by rw [← e2]; exact X'.warmed.alike) hp hb k1 k2 k3 (by rw [e1]; exact hce) hcv hcl T' rfl X'
    exact ⟨t2, st.trans a1, b1⟩
theorem vx_callv {S SX : Type} {post : S → Prop} {px : SX → Prop} {B : S → State → Prop} {BX : String → SX → State → Prop} {AX : Nat → Prop} (hr : vx_Run p l e R s m args below meth c H locs cells slots mc ms (F0 m pc ls st0) rest (va_Qv post B A1 a) (vx_X px BX AX) free) (hS : va_S A0 H0 H locs) (hA : ∀ q, q < H.size → A1 q → A0 q) (hf : ∀ q, free q → A0 q) (hAX : ∀ q, q < H.size → AX q → A0 q)
    (kx : ∀ (E : String) (ce : Cell) (q9 : Addr) (u : SX) (t : State) (H1 : Heap) (locs1 : List Loc), t.heap = H1 → s.vm.Alike t.vm → px u → BX E u t → H.size ≤ H1.size → (∀ q : Nat, q < H.size → ¬ AX q → H1[q]? = H[q]?) → va_S A0 H0 H1 locs1 → H1[q9]? = some ce → ce.vm = .none → s.vm.findClass E = some ce.cls → vx_W p l e R s m args below meth c H1 locs1 (cells + mc) (slots + ms) Q (F0 m pc ls rest) q9)
    (kk : ∀ (u : S) (t : State) (H1 : Heap) (locs1 : List Loc), t.heap = H1 → s.vm.Alike t.vm → post u → B u t → H.size ≤ H1.size → (∀ q : Nat, q < H.size → ¬ A1 q → H1[q]? = H[q]?) → va_S A0 H0 H1 locs1 → W p l e R s m args below meth c H1 locs1 (cells + mc) (slots + ms) Q (F0 m (pc + 3) ls (rest))) : W p l e R s m args below meth c H locs cells slots Q (F0 m pc ls st0) := by
  intro T hT X
  rcases hr T hT X with ⟨v, st₀, t, T', L, h0, X', hL, e1, e2, ⟨⟨u, hv, hp, hb⟩, hF⟩, st⟩ | ⟨q, st₀, t, T', L, E, ce, h0, X', hL, e1, e2, ⟨u, hp, hb, hF⟩, hce, hcv, hcl, st⟩
  · cases hv
    obtain ⟨k1, k2, k3⟩ := vx_keep h0 e1 hS hA hf hL hF
    obtain ⟨t2, a1, b1⟩ := kk u t T'.heap (locs ++ L) e1.symm (by rw [← e2]; exact X'.warmed.alike) hp hb k1 k2 k3 T' rfl X'
    exact ⟨t2, st t2 a1, b1⟩
  · obtain ⟨k1, k2, k3⟩ := vx_keep h0 e1 hS hAX hf hL hF
    obtain ⟨t2, a1, b1⟩ := kx E ce q u t T'.heap (locs ++ L) e1.symm (by rw [← e2]; exact X'.warmed.alike) hp hb k1 k2 k3 (by rw [e1]; exact hce) hcv hcl T' rfl X'
    exact ⟨t2, st.trans a1, b1⟩
/-- caught by the row x of this method's table; the rows ahead don't take it -/
theorem vx_catch {own name : String} {E : String} {ce : Cell} {q : Addr} (hown : s.vm.findClass own = some m.cls) (pre : List ExceptionTableEntry) (x : ExceptionTableEntry) (suf : List ExceptionTableEntry) (hsplit : c.exceptionTable.toList = pre ++ x :: suf)
    (hpass : ∀ z ∈ pre, covers z pc = false ∨ (z.catchType ≠ 0 ∧ ∃ nm : String, (Cond.classLink own z.catchType nm).before args s = true ∧ va_Nc E nm s)) (hx : covers x pc = true) (h0 : x.catchType ≠ 0)
    (hlink : (Cond.classLink own x.catchType name).before args s = true) (hcast : (Cond.castable E name).before args s = true) (hcell : H[q]? = some ce) (hv : ce.vm = .none) (hcl : s.vm.findClass E = some ce.cls)
    (kk : W p l e R s m args below meth c H locs cells slots Q (F0 m x.handlerPc ls [.ref q])) : vx_W p l e R s m args below meth c H locs cells slots Q (F0 m pc ls rest) q := by
  intro T hT X
  have hpl : e.platform.magicAccessors = ({} : Platform).magicAccessors := by rw [X.admits.platform]
  obtain ⟨c3, c4, hc3, hc4, hasg⟩ := Cond.castable_spec hcast
  cases Option.some.inj (hc3.symm.trans hcl)
  obtain ⟨c5, hc5, hcl5⟩ := Cond.classLink_spec hown hlink e.platform hpl
  cases Option.some.inj (hc4.symm.trans hc5)
  obtain ⟨vm', X', st⟩ := X.thenCaughtThrough q (g := F0 m pc ls rest) rfl (Steps.refl _) (by rw [hT]; exact hcell) (by rw [hv]; rfl) (by obtain ⟨k9, h9, -⟩ := Vm.findClass_spec hcl; exact ⟨k9, h9⟩) pre x suf hsplit
    (fun z hz => by
      rcases hpass z hz with h | ⟨hz0, nm, hl1, hn1⟩
      · exact Or.inl h
      · obtain ⟨c6, hc6, hcl6⟩ := Cond.classLink_spec hown hl1 e.platform hpl
        obtain ⟨a8, b8, h1, h2, h3⟩ := hn1
        cases Option.some.inj (h1.symm.trans hcl)
        cases Option.some.inj (h2.symm.trans hc6)
        exact Or.inr ⟨hz0, _, hcl6, h3⟩) hx (Or.inr ⟨h0, c4, hcl5, hasg⟩)
  obtain ⟨t, a1, b1⟩ := kk (T.setVm vm') hT X'
  exact ⟨t, st.trans a1, b1⟩
end Rows
section Ends
variable {p : Program} {l : Launch} {e : Env} {R : Room} {s : State} {m : MethodId} {args : Array Value} {below : List Frame} {meth : Method} {c : Code} {H : Heap} {locs : List Loc} {cells slots : Nat} {Q : State → Prop}
variable {mc ms : Nat} {free : Addr → Prop} {A0 A1 : Nat → Prop} {H0 : Heap} {a : Array Value} {ls : Array Slot} {st0 rest : List Value}
variable {Qc : Array Value → State → Outcome → State → Prop} {XC : String → State → State → Prop}
/-- what a body that may throw owes at its end -/
def vx_MQ (below : List Frame) (Qc : Array Value → State → Outcome → State → Prop) (XC : String → State → State → Prop) (a : Array Value) (s : State) (mc ms : Nat) (free : Addr → Prop) : State → Prop := fun t =>
  ∃ o, t.status = .running ∧ Ended t below o ∧ vx_Q Qc XC mc ms free a s o t
theorem vx_ret {g : JFrame} {mc ms : Nat} (k : W p l e R s m args below meth c H locs cells slots (MQ below Qc args s mc ms free) g) : W p l e R s m args below meth c H locs cells slots (vx_MQ below Qc XC args s mc ms free) g := by
  intro T hT X
  obtain ⟨t, a1, o, b1, b2, b3, b4⟩ := k T hT X
  exact ⟨t, a1, o, b1, b2, Or.inl ⟨b3, b4⟩⟩
/-- not caught here: it goes on to the caller -/
theorem vx_widen {g : JFrame} {q : Addr} {k n : Nat} (h1 : cells ≤ k) (h2 : slots ≤ n) (kk : vx_W p l e R s m args below meth c H locs k n Q g q) : vx_W p l e R s m args below meth c H locs cells slots Q g q := fun T hT X => kk T hT (stand_widen X h1 h2)
theorem vx_out {pc : Nat} {E : String} {ce : Cell} {q : Addr} {mc ms : Nat} (hout : ∀ x ∈ c.exceptionTable.toList, covers x pc = false) (hlocks : meth.locks = false) (hcell : H[q]? = some ce) (hv : ce.vm = .none) (hcl : s.vm.findClass E = some ce.cls)
    (hx : ∀ t : State, t.heap = H → s.vm.Alike t.vm → XC E s t) (hf : ∀ z ∈ locs, free z.base) (hc : cells ≤ mc) (hs : slots ≤ ms) :
    vx_W p l e R s m args below meth c H locs cells slots (vx_MQ below Qc XC args s mc ms free) (F0 m pc ls rest) q := by
  intro T hT X
  obtain ⟨st1, hrun, hend, hW, hsm⟩ := X.leaveThrown q (g := F0 m pc ls rest) rfl rfl rfl hout hlocks
  have hcell9 : (T.setFrames (.throwing q :: below)).heap[q]? = some ce := by
    show T.heap[q]? = some ce
    rw [hT]; exact hcell
  exact ⟨_, st1, .threw q, hrun, hend, Or.inr ⟨q, rfl, E, ce, locs, hx _ hT hW.alike, hcell9, hv, hcl, hW, hsm.mono hc hs, hf⟩⟩
theorem vx_frame {U : State} {k n : Nat} (h : s.sameButNew ({ U with vm := s.vm } : State) locs k n) : s.heap.size ≤ U.heap.size ∧ ∀ q : Nat, q < s.heap.size → (∀ z ∈ locs, z.base ≠ q) → U.heap[q]? = s.heap[q]? := by
  obtain ⟨-, h2, -, -, -, h6⟩ := h
  refine ⟨h2, fun q hq hz => ?_⟩
  obtain ⟨c9, e1, e2, e3, e4⟩ := h6 q _ (Array.getElem?_eq_getElem hq)
  have hs : c9.slots = (s.heap[q]).slots := Array.ext_getElem? fun i => e4 i fun hm => hz _ hm rfl
  have h9 : c9 = s.heap[q] := by
    rw [hs] at e2
    exact e2
  have e5 : U.heap[q]? = some c9 := e1
  rw [e5, h9, Array.getElem?_eq_getElem hq]
/-- the words of a throw but the four that speak of the heap -/
def vx_no (w : Cond) : Bool := decide (w ≠ .isRef (.static Bundle.tN "UNASSIGNED_STACK" Bundle.steD)) && decide (w ≠ .isRef (.static Bundle.tN "SUPPRESSED_SENTINEL" Bundle.listD)) && decide (w ≠ .laysStatic Bundle.tN "UNASSIGNED_STACK" Bundle.steD) && decide (w ≠ .laysStatic Bundle.tN "SUPPRESSED_SENTINEL" Bundle.listD)
def vx_at0 (own : String) (ic : Nat) (X : String) (names : List String) : List Cond := (Bundle.ownAtoms0 own ic X names).filter vx_no
def vx_atS (own : String) (ic : Nat) (X : String) (names : List String) : List Cond := (Bundle.ownAtoms own ic X names).filter vx_no
/-- a word that the tables alone decide, or a good one -/
def vx_ot (w : Cond) : Bool := w.onTables || goodWord w
theorem vx_ot_at {args a' : Array Value} {s U : State} {w : Cond} (hW : s.WarmedH U.vm) (hvm : s.vm = U.vm) (hg : vx_ot w = true) (h : w.before args s = true) : w.before a' U = true := by
  simp only [vx_ot, Bool.or_eq_true] at hg
  rcases hg with hg | hg
  · exact va_tabs hg hvm h
  · exact word_at hW (good_of_word hg) h
/-- a list's words: the good ones out of the method's own list, the others by premises of their own -/
theorem vx_hat {args : Array Value} {s : State} {L B : List Cond} (h1 : ∀ w ∈ L.filter goodWord, w.before args s = true) (h2 : ∀ w ∈ L.filter (fun w => !goodWord w), w ∈ B) (h3 : ∀ w ∈ B, w.before args s = true) : ∀ w ∈ L, w.before args s = true := by
  intro w hw
  by_cases g : goodWord w = true
  · exact h1 w (List.mem_filter.mpr ⟨hw, g⟩)
  · refine h3 w (h2 w (List.mem_filter.mpr ⟨hw, ?_⟩))
    show (!goodWord w) = true
    cases hgw : goodWord w
    · rfl
    · exact absurd hgw g
theorem vx_c {args : Array Value} {s : State} {w : Cond} {B : List Cond} (h : w.before args s = true) (t : ∀ w ∈ B, w.before args s = true) : ∀ w' ∈ w :: B, w'.before args s = true := fun w' h' => (List.mem_cons.mp h').elim (fun e => by rw [e]; exact h) (t w')
theorem vx_n {args : Array Value} {s : State} : ∀ w ∈ ([] : List Cond), w.before args s = true := fun _ h => nomatch h
theorem vx_own {args : Array Value} {s : State} {L : List Cond} (h1 : ∀ w ∈ L.filter vx_no, w.before args s = true)
    (hU : (Cond.isRef (.static Bundle.tN "UNASSIGNED_STACK" Bundle.steD)).before args s = true) (hN : (Cond.isRef (.static Bundle.tN "SUPPRESSED_SENTINEL" Bundle.listD)).before args s = true)
    (lU : (Cond.laysStatic Bundle.tN "UNASSIGNED_STACK" Bundle.steD).before args s = true) (lN : (Cond.laysStatic Bundle.tN "SUPPRESSED_SENTINEL" Bundle.listD).before args s = true) : ∀ w ∈ L, w.before args s = true := by
  intro w hw
  by_cases e1 : w = .isRef (.static Bundle.tN "UNASSIGNED_STACK" Bundle.steD)
  · rw [e1]; exact hU
  · by_cases e2 : w = .isRef (.static Bundle.tN "SUPPRESSED_SENTINEL" Bundle.listD)
    · rw [e2]; exact hN
    · by_cases e3 : w = .laysStatic Bundle.tN "UNASSIGNED_STACK" Bundle.steD
      · rw [e3]; exact lU
      · by_cases e4 : w = .laysStatic Bundle.tN "SUPPRESSED_SENTINEL" Bundle.listD
        · rw [e4]; exact lN
        · exact h1 w (List.mem_filter.mpr ⟨hw, by unfold vx_no; rw [decide_eq_true e1, decide_eq_true e2, decide_eq_true e3, decide_eq_true e4]; rfl⟩)
/-- where a static field lies, its class's statics cell in H -/
def vx_L (C n d : String) (A : Nat → Prop) (U : State) (H : Heap) : Prop := ∃ (c : ClassId) (k : Class) (i : Nat) (f : Field) (a : Nat) (cell : Cell), U.vm.findClass C = some c ∧ U.fieldFound? C n d = some (c, k, i, f) ∧ f.isStatic = true ∧ k.statics = some a ∧ H[a]? = some cell ∧ cell.vm.isStatics = true ∧ cell.cls = c ∧ f.slot < cell.slots.size ∧ k.staticTypes[f.slot]? = some f.type ∧ ¬ A a
theorem vx_L.moved {C n d : String} {A : Nat → Prop} {u U : State} {H : Heap} (hvm : u.vm.Alike U.vm) (h : vx_L C n d A u H) : vx_L C n d A U H := by
  obtain ⟨c, k, i, f, a, cell, h1, h2, h3, h4, h5, h6, h7, h8, h9, h10⟩ := h
  obtain ⟨k', hi', he⟩ := State.fieldFound?_setVm hvm h2
  exact ⟨c, k', i, f, a, cell, by rw [hvm.findClass]; exact h1, hi', h3, by rw [he]; exact h4, h5, h6, h7, h8, by rw [he]; exact h9, h10⟩
theorem vx_L.kept {C n d : String} {A : Nat → Prop} {U : State} {H H1 : Heap} (h : vx_L C n d A U H) (hq : ∀ a : Nat, a < H.size → ¬ A a → H1[a]? = H[a]?) : vx_L C n d A U H1 := by
  obtain ⟨c, k, i, f, a, cell, h1, h2, h3, h4, h5, h6, h7, h8, h9, h10⟩ := h
  exact ⟨c, k, i, f, a, cell, h1, h2, h3, h4, by rw [hq a (Array.getElem?_eq_some_iff.mp h5).1 h10]; exact h5, h6, h7, h8, h9, h10⟩
theorem vx_L.narrow {C n d : String} {A B : Nat → Prop} {U : State} {H : Heap} (h : vx_L C n d A U H) (hAB : ∀ q, B q → A q) : vx_L C n d B U H := by
  obtain ⟨c, k, i, f, a, cell, h1, h2, h3, h4, h5, h6, h7, h8, h9, h10⟩ := h
  exact ⟨c, k, i, f, a, cell, h1, h2, h3, h4, h5, h6, h7, h8, h9, fun z => h10 (hAB _ z)⟩
theorem vx_L.word {C n d : String} {A : Nat → Prop} {s : State} {args : Array Value} (h : vx_L C n d A s s.heap) : (Cond.laysStatic C n d).before args s = true := by
  obtain ⟨c, k, i, f, a, cell, h1, h2, h3, h4, h5, h6, h7, h8, h9, -⟩ := h
  show (Cond.laysStatic C n d).holds args s none s [] = true
  exact Cond.laysStatic_of h1 h2 h3 h4 h5 h6 h7 h8 h9
/-- .. and what it holds: null or some reference -/
def vx_Zq (C n d : String) (A : Nat → Prop) (U : State) (H : Heap) : Prop := va_Zq C n d A U H ∧ vx_L C n d A U H
theorem vx_Zq.moved {C n d : String} {A : Nat → Prop} {u U : State} {H : Heap} (hvm : u.vm.Alike U.vm) (h : vx_Zq C n d A u H) : vx_Zq C n d A U H := ⟨va_Zq.moved hvm h.1, vx_L.moved hvm h.2⟩
theorem vx_Zq.kept {C n d : String} {A : Nat → Prop} {U : State} {H H1 : Heap} (h : vx_Zq C n d A U H) (hq : ∀ a : Nat, a < H.size → ¬ A a → H1[a]? = H[a]?) : vx_Zq C n d A U H1 := ⟨va_Zq.kept h.1 hq, vx_L.kept h.2 hq⟩
theorem vx_Zq.narrow {C n d : String} {A B : Nat → Prop} {U : State} {H : Heap} (h : vx_Zq C n d A U H) (hAB : ∀ q, B q → A q) : vx_Zq C n d B U H := ⟨va_Zq.narrow h.1 hAB, vx_L.narrow h.2 hAB⟩
theorem vx_Zqof {args : Array Value} {s : State} {C n d : String} {A : Nat → Prop} (hl : (Cond.laysStatic C n d).before args s = true) (hini : (Cond.initialized C).before args s = true) (h : (Cond.isRef (.static C n d)).before args s = true) (hA : ∀ a : Nat, a < s.heap.size → ¬ A a) : vx_Zq C n d A s s.heap := by
  refine ⟨va_Zqof hl hini h hA, ?_⟩
  obtain ⟨c, k, i, f, a, cell, h1, h2, h3, h4, h5, h6, h7, h8, h9⟩ := Cond.laysStatic_spec hl
  exact ⟨c, k, i, f, a, cell, h1, h2, h3, h4, h5, h6, h7, h8, h9, hA a (Array.getElem?_eq_some_iff.mp h5).1⟩
theorem vx_isRef {C n d : String} {v : Value} {A : Nat → Prop} {s : State} {args : Array Value} (h : va_Z C n d v A s s.heap) (hv : v.isRef = true) : (Cond.isRef (.static C n d)).before args s = true := by
  obtain ⟨cf, kf, fi, f, a, cell, h1, h2, h3, h4, h5, h6, h7, -⟩ := h
  have he : (Term.static C n d).eval args s none [] s = some v := by
    simp [Term.eval, State.fieldNamed?, h1, h2, h4, h5, h6, h7]
  simp only [Cond.before, Cond.holds, Cond.value, he]
  cases v <;> simp_all [Value.isRef]
theorem vx_isRefq {C n d : String} {A : Nat → Prop} {s : State} {args : Array Value} (h : va_Zq C n d A s s.heap) : (Cond.isRef (.static C n d)).before args s = true := by
  rcases h with h | ⟨t, h⟩
  · exact vx_isRef h rfl
  · exact vx_isRef h rfl
/-- the same frame, seen from here: as if the method were called anew in this heap -/
theorem vx_rebase {T : State} (X : Stand p l e R s m args below meth c T locs cells slots) {R' : Room} (hf : R'.frames ≤ R.frames) (hl : R'.locals ≤ R.locals) (hc : cells + R'.cells ≤ R.cells) (hs : slots + R'.slots ≤ R.slots) :
    Stand p l e R' ((T.setVm s.vm).setFrames (.invoking m args :: below)) m args below meth c T [] 0 0 := by
  have htop : (T.setVm s.vm).topJava?.isSome := X.here.top
  have hF : ((T.setVm s.vm).setFrames (.invoking m args :: below)).frames = .invoking m args :: below := State.frames_setFrames _ (State.cur_lt_of_top htop)
  obtain ⟨g₀, hg0⟩ := Option.isSome_iff_exists.mp htop
  obtain ⟨r, hr⟩ := State.topJava?_eq_some.mp hg0
  have hl9 : e.platform.stackLimits (T.setVm s.vm).me = e.platform.stackLimits s.me := X.limits
  have hb9 : (T.setVm s.vm).me.stackBytes = s.me.stackBytes := X.bytes
  refine ⟨X.admits, X.cas, X.clock, hF, ?_, X.hears, X.method, X.code, X.here, X.tail, X.warmed, ?_, ?_, ?_⟩
  · have h := X.room
    have hU : ((T.setVm s.vm).setFrames (.invoking m args :: below)).localsInUse = s.localsInUse := by
      rw [State.localsInUse_invoking hF (meth := meth) (c := c) X.method X.code, State.localsInUse_invoking X.frames X.method X.code]
    simp only [State.hasRoom, Bool.and_eq_true, decide_eq_true_eq] at h ⊢
    obtain ⟨⟨⟨⟨h1, h2, h3, h4, h5, h6⟩, h7⟩, h8⟩, h9⟩ := h
    rw [X.frames, List.length_cons] at h2 h3
    have q1 := X.heapSize
    have q2 := X.used
    simp only [hF, hU, List.length_cons, State.stackLimits_setFrames, State.stackBytes_setFrames, hl9, hb9]
    refine ⟨⟨⟨⟨by omega, by omega, by omega, by omega, by omega, h6⟩, ?_⟩, ?_⟩, X.book⟩
    · show T.heap.size + R'.cells ≤ e.platform.maxCells
      omega
    · show T.slotsUsed + R'.slots ≤ e.platform.maxSlots
      omega
  · rw [State.stackLimits_setFrames]; rfl
  · rw [State.stackBytes_setFrames]; rfl
  · refine ⟨?_, Nat.le_refl _, Nat.le_refl _, ?_, ?_, fun a c9 h9 => ⟨c9, h9, rfl, rfl, fun _ _ => rfl⟩⟩
    · obtain ⟨t, ht, -⟩ := State.frames_cons hr
      show T.setVm s.vm = { ((T.setVm s.vm).setFrames (.invoking m args :: below)).setFrames (T.setVm s.vm).frames with heap := T.heap, slotsUsed := T.slotsUsed }
      rw [State.setFrames_setFrames, State.setFrames_self ht]
      rfl
    · show T.slotsUsed = T.slotsUsed + ((T.heap.toList.drop T.heap.size).map (·.slots.size)).sum
      rw [List.drop_eq_nil_of_le (Nat.le_of_eq Array.length_toList)]
      rfl
    · show ((T.heap.toList.drop T.heap.size).map (·.slots.size)).sum ≤ 0
      rw [List.drop_eq_nil_of_le (Nat.le_of_eq Array.length_toList)]
      exact Nat.le_refl _
/-- 'throw new E()': new; dup; invokespecial; athrow -/
theorem vx_throw0 {cc : ByteArray} {pc : Nat} (hexec : p.tables.exec = Jvm.exec) (hb : c.code = cc) (hl : l.stackTraces = false) {own cls : String} {names : List String} {ik ic mc ms : Nat} {A : Nat → Prop}
    (hown : s.vm.findClass own = some m.cls) (hcls : Bundle.fit cls = true) (hnames : ∀ n ∈ names, Bundle.fit n = true)
    (hk : (Cond.classLink own ik cls).before args s = true) (hini : (Cond.initialized cls).before args s = true) (hat : ∀ w ∈ vx_at0 own ic cls names, w.before args s = true)
    (hgood : ∀ w ∈ Cond.classLink own ik cls :: Cond.initialized cls :: vx_at0 own ic cls names, vx_ot w = true)
    (hU : vx_Zq Bundle.tN "UNASSIGNED_STACK" Bundle.steD A s s.heap) (hN : vx_Zq Bundle.tN "SUPPRESSED_SENTINEL" Bundle.listD A s s.heap) (hS : va_S A s.heap H locs) (hsize : ls.size = c.maxLocals)
    (d0 : decode cc pc = .ok (.new ik, 3)) (d3 : decode cc (pc + 3) = .ok (.dup, 1)) (d4 : decode cc (pc + 4) = .ok (.invokespecial ic, 3)) (d7 : decode cc (pc + 7) = .ok (.athrow, 1))
    (hout : ∀ x ∈ c.exceptionTable.toList, covers x (pc + 7) = false)
    (hRframes : names.length + 3 < R.frames) (hRlocals : (rest.map fun v => v.category).sum + (13 * (names.length + 1) + 42) ≤ R.locals) (hRcells : cells + 1 ≤ R.cells) (hRslots : slots + 6 ≤ R.slots) (hlocks : meth.locks = false)
    (hx : ∀ t : State, s.vm.Alike t.vm → H.size ≤ t.heap.size → (∀ q : Nat, q < H.size → t.heap[q]? = H[q]?) → XC cls s t)
    (hf : ∀ z ∈ locs, free z.base) (hc : cells + 1 ≤ mc) (hs : slots + 6 ≤ ms) :
    W p l e R s m args below meth c H locs cells slots (vx_MQ below Qc XC args s mc ms free) (F0 m pc ls rest) := by
  intro T hT X
  have htr : e.platform.stackTraces = false := (show e.platform.stackTraces = l.stackTraces by rw [X.admits.platform]).trans hl
  have Y := vx_rebase X (R' := { frames := R.frames, locals := R.locals, cells := 1, slots := 6 }) (Nat.le_refl _) (Nat.le_refl _) hRcells hRslots
  obtain ⟨s', hA⟩ : ∃ z, z = (T.setVm s.vm).setFrames (.invoking m args :: below) := ⟨_, rfl⟩
  rw [← hA] at Y
  have hvm : s'.vm = s.vm := by rw [hA]; rfl
  have hhp : s'.heap = H := by rw [hA]; exact hT
  have hW0 : s.WarmedH s'.vm := by rw [hvm]; exact State.WarmedH.refl s
  have hat' : ∀ w ∈ vx_at0 own ic cls names, w.before args s' = true := fun w hw => vx_ot_at hW0 hvm.symm (hgood w (List.mem_cons_of_mem _ (List.mem_cons_of_mem _ hw))) (hat w hw)
  have hk' : (Cond.classLink own ik cls).before args s' = true := vx_ot_at hW0 hvm.symm (hgood _ List.mem_cons_self) hk
  have hini' : (Cond.initialized cls).before args s' = true := vx_ot_at hW0 hvm.symm (hgood _ (List.mem_cons_of_mem _ List.mem_cons_self)) hini
  have hU' : vx_Zq Bundle.tN "UNASSIGNED_STACK" Bundle.steD A s' s'.heap := by rw [hhp]; exact vx_Zq.moved hW0.alike (hU.kept hS.2.1)
  have hN' : vx_Zq Bundle.tN "SUPPRESSED_SENTINEL" Bundle.listD A s' s'.heap := by rw [hhp]; exact vx_Zq.moved hW0.alike (hN.kept hS.2.1)
  have h : ∀ w ∈ Bundle.ownAtoms0 own ic cls names, w.before args s' = true := vx_own hat' (vx_isRefq hU'.1) (vx_isRefq hN'.1) hU'.2.word hN'.2.word
  have hown' : s'.vm.findClass own = some m.cls := by rw [hvm]; exact hown
  have hins : (Cond.instantiable cls 6).before args s' = true := h _ (by simp [Bundle.ownAtoms0])
  obtain ⟨vm₁, cX, kX, hfX, hkX, -, -, X₁, st1⟩ := Y.newCold hexec (own := own) (C := cls) (index := ik) (n := 6) hown' hk' hins hini'
    (g := F0 m pc ls rest) rfl (by rw [hb]; exact d0) (Nat.le_refl _) (Nat.le_refl _)
  generalize hT1 : (T.setVm vm₁).pushCell { cls := cX, slots := kX.instanceTypes.map defaultValue, vm := .none } = T1 at X₁ st1
  have hcat : (Value.ref T.heap.size).category = 1 := rfl
  have hcellA : T1.heap[T.heap.size]? = some (freshCell cX kX) := by rw [← hT1]; exact State.heap_pushCell_size _ _
  have d3' : decode c.code (pc + 3) = .ok (.dup, 1) := by rw [hb]; exact d3
  obtain ⟨U, hsteps, hrun, hend, hW, hsame, ce, hce, hO⟩ := X₁.ctorThrow0 hexec htr (own := own) (cls := cls) (names := names) (ic := ic) hown' hcls hnames h (fun x hx => nomatch hx) hfX hkX hcellA (by rw [hhp, hT]; exact Nat.le_refl _)
    (g := { method := m, pc := pc + 4, locals := ls, stack := .ref T.heap.size :: .ref T.heap.size :: rest, locked := none }) rfl hsize rfl rfl (rest := rest) rfl
    (by rw [hb]; exact d4) (by rw [hb]; exact d7) hout hRframes (by simp only [List.map_cons, List.sum_cons, hcat]; omega) hlocks
  obtain ⟨f1, f2⟩ := vx_frame hsame
  rw [hhp] at f1 f2
  have hWs : s.WarmedH U.vm := State.WarmedH.trans hW0 hW
  have hcl : s.vm.findClass cls = some ce.cls := by
    have h9 := hO.cls
    rw [hvm] at h9
    exact h9
  have hall : s.sameButNew ({ U with vm := s.vm } : State) locs mc ms := by
    subst hA
    obtain ⟨e1, e2⟩ := hsame
    rw [State.setFrames_setFrames] at e1
    have h2 : (T.setVm s.vm).sameButNew ({ U with vm := s.vm } : State) [] (0 + 1) (0 + 6) := ⟨e1, e2⟩
    have h3 := X.same.trans h2
    rw [List.append_nil] at h3
    exact h3.mono hc hs
  refine ⟨U, ?_, .threw T.heap.size, hrun, hend, Or.inr ⟨T.heap.size, rfl, cls, ce, locs, hx U hWs.alike f1 (fun q hq => f2 q hq (fun z hz => nomatch hz)), hce, hO.vm, hcl, hWs, hall, hf⟩⟩
  refine st1 _ ?_
  show Steps p.tables e below (T1.setTop { method := m, pc := pc + 3, locals := ls, stack := .ref T.heap.size :: rest, locked := none }) _
  jvm_step X₁.here [X₁.here.top, hexec, d3', Value.category]
  exact hsteps
/-- 'throw new E("text")': new; dup; ldc; invokespecial; athrow -/
theorem vx_throwS {cc : ByteArray} {pc : Nat} (hexec : p.tables.exec = Jvm.exec) (hb : c.code = cc) (hl : l.stackTraces = false) {own cls text : String} {names : List String} {ik is ic mc ms sa : Nat} {A : Nat → Prop}
    (hown : s.vm.findClass own = some m.cls) (hcls : Bundle.fit cls = true) (hnames : ∀ n ∈ names, Bundle.fit n = true)
    (hk : (Cond.classLink own ik cls).before args s = true) (hini : (Cond.initialized cls).before args s = true) (hstr : vk_R own is text sa s) (hat : ∀ w ∈ vx_atS own ic cls names, w.before args s = true)
    (hgood : ∀ w ∈ Cond.classLink own ik cls :: Cond.initialized cls :: vx_atS own ic cls names, vx_ot w = true)
    (hU : vx_Zq Bundle.tN "UNASSIGNED_STACK" Bundle.steD A s s.heap) (hN : vx_Zq Bundle.tN "SUPPRESSED_SENTINEL" Bundle.listD A s s.heap) (hS : va_S A s.heap H locs) (hsize : ls.size = c.maxLocals)
    (d0 : decode cc pc = .ok (.new ik, 3)) (d3 : decode cc (pc + 3) = .ok (.dup, 1)) (d4 : decode cc (pc + 4) = .ok (.ldc is, 2)) (d6 : decode cc (pc + 6) = .ok (.invokespecial ic, 3)) (d9 : decode cc (pc + 9) = .ok (.athrow, 1))
    (hout : ∀ x ∈ c.exceptionTable.toList, covers x (pc + 9) = false)
    (hRframes : names.length + 3 < R.frames) (hRlocals : (rest.map fun v => v.category).sum + (13 * (names.length + 1) + 43) ≤ R.locals) (hRcells : cells + 1 ≤ R.cells) (hRslots : slots + 6 ≤ R.slots) (hlocks : meth.locks = false)
    (hx : ∀ t : State, s.vm.Alike t.vm → H.size ≤ t.heap.size → (∀ q : Nat, q < H.size → t.heap[q]? = H[q]?) → XC cls s t)
    (hf : ∀ z ∈ locs, free z.base) (hc : cells + 1 ≤ mc) (hs : slots + 6 ≤ ms) :
    W p l e R s m args below meth c H locs cells slots (vx_MQ below Qc XC args s mc ms free) (F0 m pc ls rest) := by
  intro T hT X
  have htr : e.platform.stackTraces = false := (show e.platform.stackTraces = l.stackTraces by rw [X.admits.platform]).trans hl
  have Y := vx_rebase X (R' := { frames := R.frames, locals := R.locals, cells := 1, slots := 6 }) (Nat.le_refl _) (Nat.le_refl _) hRcells hRslots
  obtain ⟨s', hA⟩ : ∃ z, z = (T.setVm s.vm).setFrames (.invoking m args :: below) := ⟨_, rfl⟩
  rw [← hA] at Y
  have hvm : s'.vm = s.vm := by rw [hA]; rfl
  have hhp : s'.heap = H := by rw [hA]; exact hT
  have hW0 : s.WarmedH s'.vm := by rw [hvm]; exact State.WarmedH.refl s
  have hat' : ∀ w ∈ vx_atS own ic cls names, w.before args s' = true := fun w hw => vx_ot_at hW0 hvm.symm (hgood w (List.mem_cons_of_mem _ (List.mem_cons_of_mem _ hw))) (hat w hw)
  have hk' : (Cond.classLink own ik cls).before args s' = true := vx_ot_at hW0 hvm.symm (hgood _ List.mem_cons_self) hk
  have hini' : (Cond.initialized cls).before args s' = true := vx_ot_at hW0 hvm.symm (hgood _ (List.mem_cons_of_mem _ List.mem_cons_self)) hini
  have hU' : vx_Zq Bundle.tN "UNASSIGNED_STACK" Bundle.steD A s' s'.heap := by rw [hhp]; exact vx_Zq.moved hW0.alike (hU.kept hS.2.1)
  have hN' : vx_Zq Bundle.tN "SUPPRESSED_SENTINEL" Bundle.listD A s' s'.heap := by rw [hhp]; exact vx_Zq.moved hW0.alike (hN.kept hS.2.1)
  have h : ∀ w ∈ Bundle.ownAtoms own ic cls names, w.before args s' = true := vx_own hat' (vx_isRefq hU'.1) (vx_isRefq hN'.1) hU'.2.word hN'.2.word
  have hown' : s'.vm.findClass own = some m.cls := by rw [hvm]; exact hown
  have hins : (Cond.instantiable cls 6).before args s' = true := h _ (by simp [Bundle.ownAtoms])
  obtain ⟨vm₁, cX, kX, hfX, hkX, -, -, X₁, st1⟩ := Y.newCold hexec (own := own) (C := cls) (index := ik) (n := 6) hown' hk' hins hini'
    (g := F0 m pc ls rest) rfl (by rw [hb]; exact d0) (Nat.le_refl _) (Nat.le_refl _)
  generalize hT1 : (T.setVm vm₁).pushCell { cls := cX, slots := kX.instanceTypes.map defaultValue, vm := .none } = T1 at X₁ st1
  have hcat : (Value.ref T.heap.size).category = 1 := rfl
  have hcellA : T1.heap[T.heap.size]? = some (freshCell cX kX) := by rw [← hT1]; exact State.heap_pushCell_size _ _
  have d3' : decode c.code (pc + 3) = .ok (.dup, 1) := by rw [hb]; exact d3
  have d4' : decode c.code (pc + 4) = .ok (.ldc is, 2) := by rw [hb]; exact d4
  have hstr' : vk_R own is text sa s' := vk_R.warm hW0 hstr
  obtain ⟨U, hsteps, hrun, hend, hW, hsame, ce, hce, hO⟩ := X₁.ctorThrowS hexec htr (own := own) (cls := cls) (names := names) (ic := ic) hown' hcls hnames h (fun x hx => nomatch hx) hfX hkX hcellA (by rw [hhp, hT]; exact Nat.le_refl _) (msg := .ref sa) rfl
    (g := { method := m, pc := pc + 6, locals := ls, stack := .ref sa :: .ref T.heap.size :: .ref T.heap.size :: rest, locked := none }) rfl hsize rfl rfl (rest := rest) rfl
    (by rw [hb]; exact d6) (by rw [hb]; exact d9) hout hRframes (by simp only [List.map_cons, List.sum_cons, hcat]; omega) hlocks
  obtain ⟨f1, f2⟩ := vx_frame hsame
  rw [hhp] at f1 f2
  have hWs : s.WarmedH U.vm := State.WarmedH.trans hW0 hW
  have hcl : s.vm.findClass cls = some ce.cls := by
    have h9 := hO.cls
    rw [hvm] at h9
    exact h9
  have hall : s.sameButNew ({ U with vm := s.vm } : State) locs mc ms := by
    subst hA
    obtain ⟨e1, e2⟩ := hsame
    rw [State.setFrames_setFrames] at e1
    have h2 : (T.setVm s.vm).sameButNew ({ U with vm := s.vm } : State) [] (0 + 1) (0 + 6) := ⟨e1, e2⟩
    have h3 := X.same.trans h2
    rw [List.append_nil] at h3
    exact h3.mono hc hs
  refine ⟨U, ?_, .threw T.heap.size, hrun, hend, Or.inr ⟨T.heap.size, rfl, cls, ce, locs, hx U hWs.alike f1 (fun q hq => f2 q hq (fun z hz => nomatch hz)), hce, hO.vm, hcl, hWs, hall, hf⟩⟩
  refine st1 _ ?_
  show Steps p.tables e below (T1.setTop { method := m, pc := pc + 3, locals := ls, stack := .ref T.heap.size :: rest, locked := none }) _
  jvm_step X₁.here [X₁.here.top, hexec, d3', Value.category]
  exact X₁.ldcString hexec (own := own) (text := text) (index := is) (a := sa) hown' hstr'.1 hstr'.2
    (g := { method := m, pc := pc + 4, locals := ls, stack := .ref T.heap.size :: .ref T.heap.size :: rest, locked := none }) rfl d4' _ hsteps
/-- 'throw new E("text")', the text by a wide index -/
theorem vx_throwSW {cc : ByteArray} {pc : Nat} (hexec : p.tables.exec = Jvm.exec) (hb : c.code = cc) (hl : l.stackTraces = false) {own cls text : String} {names : List String} {ik is ic mc ms sa : Nat} {A : Nat → Prop}
    (hown : s.vm.findClass own = some m.cls) (hcls : Bundle.fit cls = true) (hnames : ∀ n ∈ names, Bundle.fit n = true)
    (hk : (Cond.classLink own ik cls).before args s = true) (hini : (Cond.initialized cls).before args s = true) (hstr : vk_R own is text sa s) (hat : ∀ w ∈ vx_atS own ic cls names, w.before args s = true)
    (hgood : ∀ w ∈ Cond.classLink own ik cls :: Cond.initialized cls :: vx_atS own ic cls names, vx_ot w = true)
    (hU : vx_Zq Bundle.tN "UNASSIGNED_STACK" Bundle.steD A s s.heap) (hN : vx_Zq Bundle.tN "SUPPRESSED_SENTINEL" Bundle.listD A s s.heap) (hS : va_S A s.heap H locs) (hsize : ls.size = c.maxLocals)
    (d0 : decode cc pc = .ok (.new ik, 3)) (d3 : decode cc (pc + 3) = .ok (.dup, 1)) (d4 : decode cc (pc + 4) = .ok (.ldc_w is, 3)) (d7 : decode cc (pc + 7) = .ok (.invokespecial ic, 3)) (d10 : decode cc (pc + 10) = .ok (.athrow, 1))
    (hout : ∀ x ∈ c.exceptionTable.toList, covers x (pc + 10) = false)
    (hRframes : names.length + 3 < R.frames) (hRlocals : (rest.map fun v => v.category).sum + (13 * (names.length + 1) + 43) ≤ R.locals) (hRcells : cells + 1 ≤ R.cells) (hRslots : slots + 6 ≤ R.slots) (hlocks : meth.locks = false)
    (hx : ∀ t : State, s.vm.Alike t.vm → H.size ≤ t.heap.size → (∀ q : Nat, q < H.size → t.heap[q]? = H[q]?) → XC cls s t)
    (hf : ∀ z ∈ locs, free z.base) (hc : cells + 1 ≤ mc) (hs : slots + 6 ≤ ms) :
    W p l e R s m args below meth c H locs cells slots (vx_MQ below Qc XC args s mc ms free) (F0 m pc ls rest) := by
  intro T hT X
  have htr : e.platform.stackTraces = false := (show e.platform.stackTraces = l.stackTraces by rw [X.admits.platform]).trans hl
  have Y := vx_rebase X (R' := { frames := R.frames, locals := R.locals, cells := 1, slots := 6 }) (Nat.le_refl _) (Nat.le_refl _) hRcells hRslots
  obtain ⟨s', hA⟩ : ∃ z, z = (T.setVm s.vm).setFrames (.invoking m args :: below) := ⟨_, rfl⟩
  rw [← hA] at Y
  have hvm : s'.vm = s.vm := by rw [hA]; rfl
  have hhp : s'.heap = H := by rw [hA]; exact hT
  have hW0 : s.WarmedH s'.vm := by rw [hvm]; exact State.WarmedH.refl s
  have hat' : ∀ w ∈ vx_atS own ic cls names, w.before args s' = true := fun w hw => vx_ot_at hW0 hvm.symm (hgood w (List.mem_cons_of_mem _ (List.mem_cons_of_mem _ hw))) (hat w hw)
  have hk' : (Cond.classLink own ik cls).before args s' = true := vx_ot_at hW0 hvm.symm (hgood _ List.mem_cons_self) hk
  have hini' : (Cond.initialized cls).before args s' = true := vx_ot_at hW0 hvm.symm (hgood _ (List.mem_cons_of_mem _ List.mem_cons_self)) hini
  have hU' : vx_Zq Bundle.tN "UNASSIGNED_STACK" Bundle.steD A s' s'.heap := by rw [hhp]; exact vx_Zq.moved hW0.alike (hU.kept hS.2.1)
  have hN' : vx_Zq Bundle.tN "SUPPRESSED_SENTINEL" Bundle.listD A s' s'.heap := by rw [hhp]; exact vx_Zq.moved hW0.alike (hN.kept hS.2.1)
  have h : ∀ w ∈ Bundle.ownAtoms own ic cls names, w.before args s' = true := vx_own hat' (vx_isRefq hU'.1) (vx_isRefq hN'.1) hU'.2.word hN'.2.word
  have hown' : s'.vm.findClass own = some m.cls := by rw [hvm]; exact hown
  have hins : (Cond.instantiable cls 6).before args s' = true := h _ (by simp [Bundle.ownAtoms])
  obtain ⟨vm₁, cX, kX, hfX, hkX, -, -, X₁, st1⟩ := Y.newCold hexec (own := own) (C := cls) (index := ik) (n := 6) hown' hk' hins hini'
    (g := F0 m pc ls rest) rfl (by rw [hb]; exact d0) (Nat.le_refl _) (Nat.le_refl _)
  generalize hT1 : (T.setVm vm₁).pushCell { cls := cX, slots := kX.instanceTypes.map defaultValue, vm := .none } = T1 at X₁ st1
  have hcat : (Value.ref T.heap.size).category = 1 := rfl
  have hcellA : T1.heap[T.heap.size]? = some (freshCell cX kX) := by rw [← hT1]; exact State.heap_pushCell_size _ _
  have d3' : decode c.code (pc + 3) = .ok (.dup, 1) := by rw [hb]; exact d3
  have d4' : decode c.code (pc + 4) = .ok (.ldc_w is, 3) := by rw [hb]; exact d4
  have hstr' : vk_R own is text sa s' := vk_R.warm hW0 hstr
  obtain ⟨U, hsteps, hrun, hend, hW, hsame, ce, hce, hO⟩ := X₁.ctorThrowS hexec htr (own := own) (cls := cls) (names := names) (ic := ic) hown' hcls hnames h (fun x hx => nomatch hx) hfX hkX hcellA (by rw [hhp, hT]; exact Nat.le_refl _) (msg := .ref sa) rfl
    (g := { method := m, pc := pc + 7, locals := ls, stack := .ref sa :: .ref T.heap.size :: .ref T.heap.size :: rest, locked := none }) rfl hsize rfl rfl (rest := rest) rfl
    (by rw [hb]; exact d7) (by rw [hb]; exact d10) hout hRframes (by simp only [List.map_cons, List.sum_cons, hcat]; omega) hlocks
  obtain ⟨f1, f2⟩ := vx_frame hsame
  rw [hhp] at f1 f2
  have hWs : s.WarmedH U.vm := State.WarmedH.trans hW0 hW
  have hcl : s.vm.findClass cls = some ce.cls := by
    have h9 := hO.cls
    rw [hvm] at h9
    exact h9
  have hall : s.sameButNew ({ U with vm := s.vm } : State) locs mc ms := by
    subst hA
    obtain ⟨e1, e2⟩ := hsame
    rw [State.setFrames_setFrames] at e1
    have h2 : (T.setVm s.vm).sameButNew ({ U with vm := s.vm } : State) [] (0 + 1) (0 + 6) := ⟨e1, e2⟩
    have h3 := X.same.trans h2
    rw [List.append_nil] at h3
    exact h3.mono hc hs
  refine ⟨U, ?_, .threw T.heap.size, hrun, hend, Or.inr ⟨T.heap.size, rfl, cls, ce, locs, hx U hWs.alike f1 (fun q hq => f2 q hq (fun z hz => nomatch hz)), hce, hO.vm, hcl, hWs, hall, hf⟩⟩
  refine st1 _ ?_
  show Steps p.tables e below (T1.setTop { method := m, pc := pc + 3, locals := ls, stack := .ref T.heap.size :: rest, locked := none }) _
  jvm_step X₁.here [X₁.here.top, hexec, d3', Value.category]
  exact X₁.ldcStringW hexec (own := own) (text := text) (index := is) (a := sa) hown' hstr'.1 hstr'.2
    (g := { method := m, pc := pc + 4, locals := ls, stack := .ref T.heap.size :: .ref T.heap.size :: rest, locked := none }) rfl d4' _ hsteps
end Ends
section Bodies
variable {l : Launch}
theorem vx_ofW {y : MethodName} {ws ws' : List Cond} {rm : Room} {Pc : Array Value → State → Prop} {Qc : Array Value → State → Outcome → State → Prop} {XC : String → State → State → Prop} {mc ms : Nat} {free : Addr → Prop} {cc : ByteArray} {maxL : Nat} {ret : Option FieldType}
    (hy : plainName y.cls = true) (hw : ws = Cond.code y cc maxL ret :: ws')
    (body : ∀ p e s m args below meth c s₁, BodyLoose p l y (headSpec ws rm) cc maxL ret e s m args below meth c s₁ → c.maxLocals = maxL → (∀ x ∈ c.exceptionTable.toList, False) → Pc args s →
      W p l e (headSpec ws rm).room s m args below meth c s.heap [] 0 0 (vx_MQ below Qc XC args s mc ms free) (entryFrame m args maxL)) : vx_Met l y ws rm Pc Qc XC mc ms free := by
  refine MetFree.of_bodyS (code := cc) (maxLocals := maxL) (ret := ret) hy ?_ ?_
  · intro args s m h hn
    obtain ⟨meth, c, h1, h2, h3, h4, h5, h6, -, -⟩ := Cond.code_spec hn (atoms_spec (ws := ws) h _ (by rw [hw]; exact List.mem_cons_self))
    exact ⟨meth, c, h1, h2, h3, h4, h5, h6⟩
  · intro p e s m args below meth c s₁ B hml hP _
    have hh0 : s₁.heap = s.heap := by rw [B.state]; rfl
    have ht : ∀ x ∈ c.exceptionTable.toList, False := by
      obtain ⟨meth9, c9, h1, h2, -, -, -, -, h7, -⟩ := Cond.code_spec B.named (atoms_spec (ws := ws) B.pre _ (by rw [hw]; exact List.mem_cons_self))
      cases Option.some.inj (h1.symm.trans B.method)
      cases Option.some.inj (h2.symm.trans (Stand.of_body B).code)
      intro x hx
      rw [Array.isEmpty_iff.mp h7] at hx
      cases hx
    obtain ⟨t, a1, o, b1, b2, b3⟩ := body p e s m args below meth c s₁ B hml ht hP s₁ hh0 (Stand.of_body B)
    exact ⟨t, o, a1, b1, b2, b3⟩
/-- the table of a body with handlers -/
theorem vx_table {p : Program} {x y : MethodName} {S : Spec} {cc bytes : ByteArray} {maxL maxL' : Nat} {ret ret' : Option FieldType} {e : Env} {s s₁ : State} {m : MethodId} {args : Array Value} {below : List Frame} {meth : Method} {c : Code} {hh : List (Nat × Nat × Nat × Nat)}
    (B : BodyLoose p l y S cc maxL ret e s m args below meth c s₁) (h : (Cond.codeWith y bytes maxL' ret' hh).before args s = true) : c.exceptionTable.toList = tableOf hh := by
  obtain ⟨m9, meth9, c9, hn9, h1, h2, -, -, h6, -⟩ := Cond.codeWith_spec h
  cases Option.some.inj (hn9.symm.trans B.named)
  cases Option.some.inj (h1.symm.trans B.method)
  cases Option.some.inj (h2.symm.trans (Stand.of_body B).code)
  rw [← h6, table_eq]
end Bodies
end VXA
/-! ===== END ===== -/
/-! ===== BEGIN a static call of a method with an exception table ===== -/
section VXS
variable {p : Program} {l : Launch} {e : Env} {R : Room} {s : State} {m : MethodId} {args : Array Value} {below : List Frame} {meth : Method} {c : Code} {T : State} {H : Heap} {locs : List Loc} {cells slots : Nat}
abbrev vx_CSW (R : Room) (s : State) (args : Array Value) (own : String) (index : Nat) (y : MethodName) (bytes : ByteArray) (maxL : Nat) (ret : Option FieldType) (hh : List (Nat × Nat × Nat × Nat)) (ws : List Cond) (rm : Room) (mc ms n : Nat) : Prop :=
  (rm.cells = mc ∧ rm.slots = ms ∧ rm.frames + 1 ≤ R.frames ∧ 8 + (maxL + 11) + rm.locals ≤ R.locals ∧ (∀ w ∈ ws, ∀ (a' : Array Value) (U : State), s.WarmedH U.vm → w.before a' U = true) ∧ Cond.codeWith y bytes maxL ret hh ∈ ws) ∧
  (Cond.codeWith y bytes maxL ret hh).before args s = true ∧ (Cond.initialized y.cls).before args s = true ∧ (y.cls ≠ "java/lang/invoke/MethodHandle" ∧ y.cls ≠ "java/lang/invoke/VarHandle") ∧
  (∀ sig, parseMethodDescriptor y.desc = some sig → n = sig.parameters.length) ∧ (Cond.methodLink own index y).before args s = true ∧ (Cond.static y).before args s = true
theorem vx_cwSW {own : String} {index maxL mc ms : Nat} {y : MethodName} {bytes : ByteArray} {ret : Option FieldType} {hh : List (Nat × Nat × Nat × Nat)} {Ts ws ws' : List Cond} {rm : Room} (n : Nat) (ht : ∀ w ∈ Ts, w.before args s = true) (hT : GoodIn Ts (va_wsS own index y ws)) (hw : ws = Cond.codeWith y bytes maxL ret hh :: ws') (hrc : rm.cells = mc) (hrs : rm.slots = ms)
    (hd : y.cls ≠ "java/lang/invoke/MethodHandle" ∧ y.cls ≠ "java/lang/invoke/VarHandle" ∧ (parseMethodDescriptor y.desc).map (fun d => d.parameters.length) = some n) (hR : rm.frames + 1 ≤ R.frames ∧ 8 + (maxL + 11) + rm.locals ≤ R.locals) :
    vx_CSW R s args own index y bytes maxL ret hh ws rm mc ms n := by
  have ok : ∀ w ∈ va_wsS own index y ws, w.before args s = true := fun w h => ht w (hT w h).1
  have hG : GoodIn Ts ws := fun w h => hT w (by unfold va_wsS; exact List.mem_append_right _ h)
  have hc : Cond.codeWith y bytes maxL ret hh ∈ ws := by rw [hw]; exact List.mem_cons_self
  refine ⟨⟨hrc, hrs, hR.1, hR.2, pay_in ht hG, hc⟩, ht _ (hG _ hc).1, ok _ (by simp [va_wsS]), ⟨hd.1, hd.2.1⟩, fun sig h => ?_, ok _ (by simp [va_wsS]), ok _ (by simp [va_wsS])⟩
  have h2 := hd.2.2
  rw [h] at h2
  exact (Option.some.inj h2).symm
theorem vx_callSW (X : Stand p l e R s m args below meth c T locs cells slots) (hexec : p.tables.exec = Jvm.exec) {own : String} {index : Nat} {y : MethodName} {bytes : ByteArray} {maxL : Nat} {ret : Option FieldType} {hh : List (Nat × Nat × Nat × Nat)}
    (hown : s.vm.findClass own = some m.cls) (hlink : (Cond.methodLink own index y).before args s = true) (hstat : (Cond.static y).before args s = true) (hinit : (Cond.initialized y.cls).before args s = true)
    (hcode : (Cond.codeWith y bytes maxL ret hh).before args s = true) (hy : y.cls ≠ "java/lang/invoke/MethodHandle" ∧ y.cls ≠ "java/lang/invoke/VarHandle")
    {W9 : Nat} {Pre : Pt → Array Value → Prop} {Post : Pt → Array Value → Option Value → Pt → Prop} (hK : Back l R p e below s args y 3 W9 Pre Post)
    {g : JFrame} (hg : g.method = m) (hsize : g.locals.size = c.maxLocals) {argsL rest : List Value} (hlen : ∀ sig, parseMethodDescriptor y.desc = some sig → argsL.length = sig.parameters.length)
    (hstack : g.stack = argsL.reverse ++ rest) (hW : 2 * g.monitorRoom + (rest.map fun v => v.category).sum ≤ W9) (hdg : decode c.code g.pc = .ok (.invokestatic index, 3))
    (hpre : ∀ vm₁, s.WarmedH vm₁ → Pre ⟨T.setVm vm₁, locs, cells, slots⟩ argsL.toArray) :
    ∃ (v : Option Value) (vm₁ : Vm) (B : Pt), s.WarmedH vm₁ ∧ Stand p l e R s m args below meth c B.U B.locs B.cells B.slots ∧ Post ⟨T.setVm vm₁, locs, cells, slots⟩ argsL.toArray v B ∧
      ∀ target, Steps p.tables e below (B.U.setTop { g with pc := g.pc + 3, stack := v.toList ++ rest }) target → Steps p.tables e below (T.setTop g) target := by
  obtain ⟨mk, methM, cM, hnamed, hmethM, -, -, -, -, -, -, hsigM⟩ := Cond.codeWith_spec hcode
  have hstatic : methM.isStatic = true := Cond.static_spec hnamed hmethM hstat
  obtain ⟨kP, hkP, -⟩ := className_of_methodNamed hnamed
  have hinitP : kP.init = .initialized := Cond.initialized_spec (findClass_of_methodNamed hnamed) hkP hinit
  obtain ⟨vm₁, X₁, hstep₁⟩ := X.invokestatic hexec hown hlink hnamed hmethM hstatic hkP hinitP hy (g := g) hg (argsL := argsL) (rest := rest) (hlen _ hsigM) hstack hdg
  obtain ⟨v, B, X', hpost, hsteps⟩ := hK m meth c ⟨T.setVm vm₁, locs, cells, slots⟩ { g with stack := rest } (.invokestatic index) mk argsL.toArray X₁ hg hsize hdg hW (X₁.named hnamed) (hpre vm₁ X₁.warmed)
  exact ⟨v, vm₁, B, X₁.warmed, X', hpost, fun target h => hstep₁ _ fun acts => by rw [doInvoke_state]; exact hsteps.trans h⟩
theorem vx_runSW {y : MethodName} {bytes cc : ByteArray} {maxL nL mc ms n index : Nat} {ret : Option FieldType} {hh : List (Nat × Nat × Nat × Nat)} {ws : List Cond} {rm : Room} {Pc : Array Value → State → Prop} {Qc : Array Value → State → Outcome → State → Prop} {free : Addr → Prop} {Ts : List Cond} {own : String} {As rest : List Value} {g : JFrame}
    (S : CallFix p m c cc nL s args Ts own) (hM : Met l y ws rm Pc Qc mc ms free) (cw : vx_CSW R s args own index y bytes maxL ret hh ws rm mc ms n) (hp : PreS s H Pc As)
    (hg : g.method = m) (hn : As.length = n) (hsize : g.locals.size = nL) (hstack : g.stack = As.reverse ++ rest) (hW : 2 * g.monitorRoom + (rest.map fun v => v.category).sum ≤ 8) (hdg : decode cc g.pc = .ok (.invokestatic index, 3)) (hf : cells + mc ≤ R.cells ∧ slots + ms ≤ R.slots) :
    va_Run p l e R s m args below meth c H locs cells slots mc ms g rest (Qc As.toArray) (free) := by
  obtain ⟨⟨hrc, hrs, hfr, hlo, hws, hcw⟩, hcode, hini, hy, hlen, hl, hstt⟩ := cw
  have hK : Back l R p e below s args y 3 8 (PreOf R mc ms Pc) (PostOf Qc mc ms free) := va_backW (hh := hh) (bytes := bytes) (maxL := maxL) (ret := ret) hM hp.1 hrc hrs hfr hlo hws hcw (fun a' U hW => word_at hW (Or.inl (by first | rfl | simp [Cond.onTables, Cond.keeps, Cond.steady])) hini)
  obtain ⟨hx, hb, hml, ho, -⟩ := S
  intro T hT X
  obtain ⟨v, vm₁, ⟨U', l2, c2, s2⟩, hW₁, X', ⟨g', mk, t, L, e1, e2, hq, h1, hL, h2, h3⟩, st⟩ := vx_callSW X hx (hh := hh) (bytes := bytes) (maxL := maxL) (ret := ret) ho hl hstt hini hcode hy hK hg (hsize.trans hml.symm) (argsL := As) (rest := rest) (fun sig h => hn.trans (hlen sig h)) hstack hW (by rw [hb]; exact hdg)
    (fun vm₁ hW₁ => ⟨hf.1, hf.2, hp.2 (T.setVm vm₁) hT hW₁⟩)
  dsimp only [Pt.U, Pt.locs, Pt.cells, Pt.slots] at X' e1 e2 h1 h2 h3 st
  subst h1; subst h2; subst h3
  exact ⟨v, (T.setVm vm₁).calling g' mk As.toArray, t, U', L, hT, X', hL, e1, e2, hq, st⟩
/-- not caught here, past rows that name other classes: it goes on to the caller -/
theorem vx_outP {p : Program} {l : Launch} {e : Env} {R : Room} {s : State} {m : MethodId} {args : Array Value} {below : List Frame} {meth : Method} {c : Code} {H : Heap} {locs : List Loc} {cells slots : Nat} {free : Addr → Prop} {ls : Array Slot} {rest : List Value} {Qc : Array Value → State → Outcome → State → Prop} {XC : String → State → State → Prop}
    {pc : Nat} {own E : String} {ce : Cell} {q : Addr} {mc ms : Nat} (hown : s.vm.findClass own = some m.cls) (hlocks : meth.locks = false)
    (hpass : ∀ z ∈ c.exceptionTable.toList, covers z pc = false ∨ (z.catchType ≠ 0 ∧ ∃ nm : String, (Cond.classLink own z.catchType nm).before args s = true ∧ va_Nc E nm s)) (hcell : H[q]? = some ce) (hv : ce.vm = .none) (hcl : s.vm.findClass E = some ce.cls)
    (hx : ∀ t : State, t.heap = H → s.vm.Alike t.vm → XC E s t) (hf : ∀ z ∈ locs, free z.base) (hc : cells ≤ mc) (hs : slots ≤ ms) :
    vx_W p l e R s m args below meth c H locs cells slots (vx_MQ below Qc XC args s mc ms free) (F0 m pc ls rest) q := by
  intro T hT X
  have hpl : e.platform.magicAccessors = ({} : Platform).magicAccessors := by rw [X.admits.platform]
  obtain ⟨vm', hW', X', st⟩ := X.outThrough hlocks q (g := F0 m pc ls rest) rfl rfl rfl (cell := ce) (by rw [hT]; exact hcell) (by rw [hv]; rfl)
    (by obtain ⟨k9, h9, -⟩ := Vm.findClass_spec hcl; exact ⟨k9, h9⟩) (fun z hz => by
      rcases hpass z hz with h | ⟨hz0, nm, hl1, hn1⟩
      · exact Or.inl h
      · obtain ⟨c6, hc6, hcl6⟩ := Cond.classLink_spec hown hl1 e.platform hpl
        obtain ⟨a8, b8, h1, h2, h3⟩ := hn1
        cases Option.some.inj (h1.symm.trans hcl)
        cases Option.some.inj (h2.symm.trans hc6)
        exact Or.inr ⟨hz0, _, hcl6, h3⟩)
  obtain ⟨g₀, hfr⟩ := X'.frames_eq
  have hcell9 : ((T.setVm vm').setFrames (.throwing q :: below)).heap[q]? = some ce := by
    show T.heap[q]? = some ce
    rw [hT]; exact hcell
  have hend : Ended ((T.setVm vm').setFrames (.throwing q :: below)) below (.threw q) := State.frames_setFrames _ (State.cur_lt_of_frames hfr)
  refine ⟨(T.setVm vm').setFrames (.throwing q :: below), ?_, .threw q, X'.here.running, hend, Or.inr ⟨q, rfl, E, ce, locs, hx _ hT (X'.ends _).1.alike, hcell9, hv, hcl, (X'.ends _).1, (X'.ends _).2.mono hc hs, hf⟩⟩
  rw [X.pushThrowing_eq]
  exact st
/-- a thing of a world lies in the heap -/
theorem vx_lt {D : va_G} {cl : List vw_C} {ws : va_W} {H1 : Heap} (h : va_P D cl ws H1) {k : Nat} {q : Nat × va_E} (hk : ws[k]? = some q) : q.1 < H1.size := (h k q hk).lt
end VXS
/-! ===== END ===== -/
/-! ===== BEGIN methods with a table of their own: called by a name, returning or throwing ===== -/
section VXH
/-! vx_backW, vx_callVX, vx_callSX, vx_callVW, vx_runVW, vx_runVX, vx_runSX, vx_ofWH follow the same proofs as their sisters above (Free/Laws.lean, Shelf42/LK1.lean); vx_outP calls Shelf42/NT130.lean (outThrough). -/
section
variable {l : Launch} {R : Room} {p : Program} {e : Env} {below : List Frame} {s : State} {sargs : Array Value} {y : MethodName} {len W9 : Nat}
theorem vx_backW {ws : List Cond} {rm : Room} {Pc : Array Value → State → Prop} {Qc : Array Value → State → Outcome → State → Prop} {XC : String → State → State → Prop} {mc ms : Nat} {free : Addr → Prop} {bytes : ByteArray} {maxL : Nat} {ret : Option FieldType} {hh : List (Nat × Nat × Nat × Nat)}
    (hM : vx_Met l y ws rm Pc Qc XC mc ms free) (hblind : FrameBlind Pc) (hrc : rm.cells = mc) (hrs : rm.slots = ms)
    (hframes : rm.frames + 1 ≤ R.frames) (hlocals : W9 + (maxL + 11) + rm.locals ≤ R.locals)
    (hws : ∀ w ∈ ws, ∀ a' U, s.WarmedH U.vm → w.before a' U = true) (hcode : Cond.codeWith y bytes maxL ret hh ∈ ws) (hinit : ∀ a' U, s.WarmedH U.vm → (Cond.initialized y.cls).before a' U = true) :
    vx_Back l R p e below s sargs y len W9 (PreOf R mc ms Pc) (PostOf Qc mc ms free) (vx_Post XC mc ms free) := by
  intro m meth c A g ig mk a X hg hsize hdg hW hn hp
  have h1 : (headSpec ws rm).pre.before a A.U = true := atoms_intro fun w hw => hws w hw _ _ X.warmed
  have h2 : (Cond.codeWith y bytes maxL ret hh).before a A.U = true := hws _ hcode _ _ X.warmed
  have h3 : (Cond.initialized y.cls).before a A.U = true := hinit _ _ X.warmed
  have h4 : A.cells + (headSpec ws rm).room.cells ≤ R.cells := by rw [show (headSpec ws rm).room.cells = mc from hrc]; exact hp.1
  have h5 : A.slots + (headSpec ws rm).room.slots ≤ R.slots := by rw [show (headSpec ws rm).room.slots = ms from hrs]; exact hp.2.1
  have hPc : Pc a (A.U.calling g mk a) := hblind _ _ _ _ hp.2.2
  obtain ⟨U, Ls, c0, s0⟩ := A
  dsimp only [Pt.U, Pt.locs, Pt.cells, Pt.slots] at h1 h2 h3 h4 h5 X hn hPc ⊢
  obtain ⟨m9, methY, cY, hn9, hmY, hcY, -, hlY, -⟩ := Cond.codeWith_spec h2
  cases Option.some.inj (hn9.symm.trans hn)
  obtain ⟨kY, hkY, -⟩ := className_of_methodNamed hn
  have hinitY : kY.init = .initialized := Cond.initialized_spec (findClass_of_methodNamed hn) hkY h3
  have h : At U g.method c below := by rw [hg]; exact X.here
  have hlocals9 : W9 + (maxL + 11) + (headSpec ws rm).room.locals ≤ R.locals := hlocals
  have happ : (headSpec ws rm).appliesLoose y e.platform (U.calling g mk a) = true :=
    Spec.appliesLoose_calling (g := g) h hdg hn hkY hinitY
      (X.room_calling (g := g) (R' := (headSpec ws rm).room) hsize hmY hcY hframes (by rw [hlY]; omega) h4 h5) h1
  obtain ⟨mid, hmid⟩ := h.above
  have hfr : (U.setTop g).frames = (.java g :: mid) ++ below := by rw [State.frames_setTop' g h.top, hmid]; rfl
  obtain ⟨o, s₂, hsteps, -, hend, hq⟩ := Steps.callFree hM p X.admits X.cas X.clock (acts := []) hfr happ hPc trivial
  have hq' : vx_Q Qc XC mc ms free a (U.calling g mk a) o s₂ := hq
  rw [State.frames_setTop' g h.top] at hend
  obtain ⟨g₀, hg0⟩ := Option.isSome_iff_exists.mp h.top
  obtain ⟨r, hr⟩ := State.topJava?_eq_some.mp hg0
  have hr' : (({ U with heap := s₂.heap, slotsUsed := s₂.slotsUsed } : State).setVm s₂.vm).frames = .java g₀ :: r := hr
  rcases hq' with ⟨hqc, L, hfe, hL⟩ | ⟨q, rfl, E, ce, L, hx, hce, hcv, hcl, hW₂, hsm, hL⟩
  · obtain ⟨⟨v, rfl⟩, hW₂, e2, q2, q3, q4, q5, q6⟩ := id hfe
    have e3 : s₂ = ({ (U.calling g mk a).setFrames s₂.frames with heap := s₂.heap, slotsUsed := s₂.slotsUsed } : State).setVm s₂.vm := by
      have : s₂ = ({ s₂ with vm := (U.calling g mk a).vm } : State).setVm s₂.vm := rfl
      rw [e2] at this
      exact this
    obtain ⟨c₂, i₂, len₂, hc₂, hd₂, hf₂⟩ := hend
    have hW' : U.WarmedH s₂.vm := hW₂
    have hcc : c₂ = c := by
      have h1 : s₂.code? g.method = U.code? g.method := by
        rw [State.code?_eq, State.code?_eq, hW'.alike.method?]
      exact Option.some.inj (hc₂.symm.trans (h1.trans h.code))
    subst hcc
    have hlen : len₂ = len := by rw [hdg] at hd₂; cases hd₂; rfl
    subst hlen
    have hs₂ : s₂ = (({ U with heap := s₂.heap, slotsUsed := s₂.slotsUsed } : State).setVm s₂.vm).setTop { g with pc := g.pc + len₂, stack := v.toList ++ g.stack } := by
      refine e3.trans ?_
      rw [hf₂, State.calling_eq h.top, State.setFrames_setFrames, State.setTop_of_frames _ hr', hr]
      rfl
    have hsame : U.sameButNew ({ U with heap := s₂.heap, slotsUsed := s₂.slotsUsed } : State) L mc ms := by
      refine ⟨?_, q2, q3, q4, q5, q6⟩
      obtain ⟨t, ht, -⟩ := State.frames_cons hr
      show ({ U with heap := s₂.heap, slotsUsed := s₂.slotsUsed } : State) = { U.setFrames U.frames with heap := s₂.heap, slotsUsed := s₂.slotsUsed }
      rw [State.setFrames_self ht]
    subst hg
    refine Or.inl ⟨v, ⟨(({ U with heap := s₂.heap, slotsUsed := s₂.slotsUsed } : State).setVm s₂.vm), Ls ++ L, c0 + mc, s0 + ms⟩,
      ⟨X.admits, X.cas, X.clock, X.frames, X.room, X.hears, X.method, X.code, (X.here.setHeapUsed s₂.heap s₂.slotsUsed).setVm hW'.alike, X.tail, State.WarmedH.trans X.warmed hW', X.limits, X.bytes, X.same.trans (hsame.setVm s.vm)⟩,
      ⟨g, mk, s₂, L, rfl, rfl, hqc, rfl, hL, rfl, rfl⟩, ?_⟩
    show Steps p.tables e below _ ((({ U with heap := s₂.heap, slotsUsed := s₂.slotsUsed } : State).setVm s₂.vm).setTop { g with pc := g.pc + len₂, stack := v.toList ++ g.stack })
    rw [← hs₂]
    exact hsteps
  · obtain ⟨e2, q2, q3, q4, q5, q6⟩ := id hsm
    have e3 : s₂ = ({ (U.calling g mk a).setFrames s₂.frames with heap := s₂.heap, slotsUsed := s₂.slotsUsed } : State).setVm s₂.vm := by
      have : s₂ = ({ s₂ with vm := (U.calling g mk a).vm } : State).setVm s₂.vm := rfl
      rw [e2] at this
      exact this
    have hf₂ : s₂.frames = .throwing q :: .java g :: U.frames.tail := hend
    have hW' : U.WarmedH s₂.vm := hW₂
    have hs₂ : s₂ = ((({ U with heap := s₂.heap, slotsUsed := s₂.slotsUsed } : State).setVm s₂.vm).setTop g).pushFrame (.throwing q) := by
      refine e3.trans ?_
      rw [hf₂, State.calling_eq h.top, State.setFrames_setFrames, State.pushFrame, State.frames_setTop _ hr', State.setTop_of_frames _ hr', State.setFrames_setFrames, hr]
      rfl
    have hsame : U.sameButNew ({ U with heap := s₂.heap, slotsUsed := s₂.slotsUsed } : State) L mc ms := by
      refine ⟨?_, q2, q3, q4, q5, q6⟩
      obtain ⟨t, ht, -⟩ := State.frames_cons hr
      show ({ U with heap := s₂.heap, slotsUsed := s₂.slotsUsed } : State) = { U.setFrames U.frames with heap := s₂.heap, slotsUsed := s₂.slotsUsed }
      rw [State.setFrames_self ht]
    subst hg
    refine Or.inr ⟨q, ⟨(({ U with heap := s₂.heap, slotsUsed := s₂.slotsUsed } : State).setVm s₂.vm), Ls ++ L, c0 + mc, s0 + ms⟩,
      ⟨X.admits, X.cas, X.clock, X.frames, X.room, X.hears, X.method, X.code, (X.here.setHeapUsed s₂.heap s₂.slotsUsed).setVm hW'.alike, X.tail, State.WarmedH.trans X.warmed hW', X.limits, X.bytes, X.same.trans (hsame.setVm s.vm)⟩,
      ⟨g, mk, s₂, L, E, ce, rfl, rfl, hx, hce, hcv, hcl, rfl, hL, rfl, rfl⟩, ?_⟩
    show Steps p.tables e below _ (((({ U with heap := s₂.heap, slotsUsed := s₂.slotsUsed } : State).setVm s₂.vm).setTop g).pushFrame (.throwing q))
    rw [← hs₂]
    exact hsteps
end
variable {p : Program} {l : Launch} {e : Env} {R : Room} {s : State} {m : MethodId} {args : Array Value} {below : List Frame} {meth : Method} {c : Code} {T : State} {H : Heap} {locs : List Loc} {cells slots : Nat}
theorem vx_callVX (X : Stand p l e R s m args below meth c T locs cells slots) (hexec : p.tables.exec = Jvm.exec) {own C : String} {index : Nat} {y : MethodName} {bytes : ByteArray} {maxL : Nat} {ret : Option FieldType} {hh : List (Nat × Nat × Nat × Nat)}
    (hown : s.vm.findClass own = some m.cls) (hlink : (Cond.methodLink own index y).before args s = true) (hinst : (Cond.instanceMethod y).before args s = true) (hsel : (Cond.selects C y y).before args s = true)
    (hcode : (Cond.codeWith y bytes maxL ret hh).before args s = true) (hy : y.cls ≠ "java/lang/invoke/MethodHandle" ∧ y.cls ≠ "java/lang/invoke/VarHandle")
    {W9 : Nat} {Pre : Pt → Array Value → Prop} {Post : Pt → Array Value → Option Value → Pt → Prop} {PostX : Pt → Array Value → Addr → Pt → Prop} (hK : vx_Back l R p e below s args y 3 W9 Pre Post PostX)
    {b : Addr} {cellB : Cell} (hcell : T.heap[b]? = some cellB) (hobj : cellB.vm.isStatics = false) (hcls : s.vm.findClass C = some cellB.cls)
    {g : JFrame} (hg : g.method = m) (hsize : g.locals.size = c.maxLocals) {argsL rest : List Value} (hlen : ∀ sig, parseMethodDescriptor y.desc = some sig → argsL.length = sig.parameters.length)
    (hstack : g.stack = argsL.reverse ++ .ref b :: rest) (hW : 2 * g.monitorRoom + (rest.map fun v => v.category).sum ≤ W9) (hdg : decode c.code g.pc = .ok (.invokevirtual index, 3))
    (hpre : ∀ vm₁, s.WarmedH vm₁ → Pre ⟨T.setVm vm₁, locs, cells, slots⟩ (Value.ref b :: argsL).toArray) :
    (∃ (v : Option Value) (vm₁ : Vm) (B : Pt), s.WarmedH vm₁ ∧ Stand p l e R s m args below meth c B.U B.locs B.cells B.slots ∧ Post ⟨T.setVm vm₁, locs, cells, slots⟩ (Value.ref b :: argsL).toArray v B ∧
      ∀ target, Steps p.tables e below (B.U.setTop { g with pc := g.pc + 3, stack := v.toList ++ rest }) target → Steps p.tables e below (T.setTop g) target) ∨
    (∃ (q : Addr) (vm₁ : Vm) (B : Pt), s.WarmedH vm₁ ∧ Stand p l e R s m args below meth c B.U B.locs B.cells B.slots ∧ PostX ⟨T.setVm vm₁, locs, cells, slots⟩ (Value.ref b :: argsL).toArray q B ∧
      Steps p.tables e below (T.setTop g) ((B.U.setTop { g with stack := rest }).pushFrame (.throwing q))) := by
  obtain ⟨mk, methM, hnamed, hmethM, hstM, habM⟩ := Cond.instanceMethod_spec hinst
  obtain ⟨m8, methM', cM, hn8, hmethM', -, -, -, -, -, -, hsigM⟩ := Cond.codeWith_spec hcode
  cases Option.some.inj (hn8.symm.trans hnamed)
  cases hmethM.symm.trans hmethM'
  obtain ⟨c2, r2, m2, q1, q2, q3, q4, kP, hkP, hkPi⟩ := Cond.selects_spec hsel
  cases hcls.symm.trans q1
  cases (State.methodFound?_of_named hnamed hy).symm.trans q2
  cases hnamed.symm.trans q3
  have hselP : selectMethod e.platform s.vm cellB.cls mk = .method mk := by rw [Launch.admits_selectMethod X.admits]; exact q4
  obtain ⟨vm₁, X₁, hstep₁⟩ := X.invokevirtual hexec hown hlink hnamed hmethM hstM hkP hkPi hy (a := b) (cell := cellB) hcell
    (fun z h => by rw [h] at hobj; cases hobj) hselP hmethM habM hkP hkPi (g := g) hg (argsL := argsL) (rest := rest) (hlen _ hsigM) hstack hdg
  rcases hK m meth c ⟨T.setVm vm₁, locs, cells, slots⟩ { g with stack := rest } (.invokevirtual index) mk (Value.ref b :: argsL).toArray X₁ hg hsize hdg hW (X₁.named hnamed) (hpre vm₁ X₁.warmed) with ⟨v, B, X', hpost, hsteps⟩ | ⟨q, B, X', hpost, hsteps⟩
  · exact Or.inl ⟨v, vm₁, B, X₁.warmed, X', hpost, fun target h => hstep₁ _ fun acts => by rw [doInvoke_state]; exact hsteps.trans h⟩
  · exact Or.inr ⟨q, vm₁, B, X₁.warmed, X', hpost, hstep₁ _ fun acts => by rw [doInvoke_state]; exact hsteps⟩
theorem vx_callSX (X : Stand p l e R s m args below meth c T locs cells slots) (hexec : p.tables.exec = Jvm.exec) {own : String} {index : Nat} {y : MethodName} {bytes : ByteArray} {maxL : Nat} {ret : Option FieldType} {hh : List (Nat × Nat × Nat × Nat)}
    (hown : s.vm.findClass own = some m.cls) (hlink : (Cond.methodLink own index y).before args s = true) (hstat : (Cond.static y).before args s = true) (hinit : (Cond.initialized y.cls).before args s = true)
    (hcode : (Cond.codeWith y bytes maxL ret hh).before args s = true) (hy : y.cls ≠ "java/lang/invoke/MethodHandle" ∧ y.cls ≠ "java/lang/invoke/VarHandle")
    {W9 : Nat} {Pre : Pt → Array Value → Prop} {Post : Pt → Array Value → Option Value → Pt → Prop} {PostX : Pt → Array Value → Addr → Pt → Prop} (hK : vx_Back l R p e below s args y 3 W9 Pre Post PostX)
    {g : JFrame} (hg : g.method = m) (hsize : g.locals.size = c.maxLocals) {argsL rest : List Value} (hlen : ∀ sig, parseMethodDescriptor y.desc = some sig → argsL.length = sig.parameters.length)
    (hstack : g.stack = argsL.reverse ++ rest) (hW : 2 * g.monitorRoom + (rest.map fun v => v.category).sum ≤ W9) (hdg : decode c.code g.pc = .ok (.invokestatic index, 3))
    (hpre : ∀ vm₁, s.WarmedH vm₁ → Pre ⟨T.setVm vm₁, locs, cells, slots⟩ argsL.toArray) :
    (∃ (v : Option Value) (vm₁ : Vm) (B : Pt), s.WarmedH vm₁ ∧ Stand p l e R s m args below meth c B.U B.locs B.cells B.slots ∧ Post ⟨T.setVm vm₁, locs, cells, slots⟩ argsL.toArray v B ∧
      ∀ target, Steps p.tables e below (B.U.setTop { g with pc := g.pc + 3, stack := v.toList ++ rest }) target → Steps p.tables e below (T.setTop g) target) ∨
    (∃ (q : Addr) (vm₁ : Vm) (B : Pt), s.WarmedH vm₁ ∧ Stand p l e R s m args below meth c B.U B.locs B.cells B.slots ∧ PostX ⟨T.setVm vm₁, locs, cells, slots⟩ argsL.toArray q B ∧
      Steps p.tables e below (T.setTop g) ((B.U.setTop { g with stack := rest }).pushFrame (.throwing q))) := by
  obtain ⟨mk, methM, cM, hnamed, hmethM, -, -, -, -, -, -, hsigM⟩ := Cond.codeWith_spec hcode
  have hstatic : methM.isStatic = true := Cond.static_spec hnamed hmethM hstat
  obtain ⟨kP, hkP, -⟩ := className_of_methodNamed hnamed
  have hinitP : kP.init = .initialized := Cond.initialized_spec (findClass_of_methodNamed hnamed) hkP hinit
  obtain ⟨vm₁, X₁, hstep₁⟩ := X.invokestatic hexec hown hlink hnamed hmethM hstatic hkP hinitP hy (g := g) hg (argsL := argsL) (rest := rest) (hlen _ hsigM) hstack hdg
  rcases hK m meth c ⟨T.setVm vm₁, locs, cells, slots⟩ { g with stack := rest } (.invokestatic index) mk argsL.toArray X₁ hg hsize hdg hW (X₁.named hnamed) (hpre vm₁ X₁.warmed) with ⟨v, B, X', hpost, hsteps⟩ | ⟨q, B, X', hpost, hsteps⟩
  · exact Or.inl ⟨v, vm₁, B, X₁.warmed, X', hpost, fun target h => hstep₁ _ fun acts => by rw [doInvoke_state]; exact hsteps.trans h⟩
  · exact Or.inr ⟨q, vm₁, B, X₁.warmed, X', hpost, hstep₁ _ fun acts => by rw [doInvoke_state]; exact hsteps⟩
theorem vx_callVW (X : Stand p l e R s m args below meth c T locs cells slots) (hexec : p.tables.exec = Jvm.exec) {own C : String} {index : Nat} {y : MethodName} {bytes : ByteArray} {maxL : Nat} {ret : Option FieldType} {hh : List (Nat × Nat × Nat × Nat)}
    (hown : s.vm.findClass own = some m.cls) (hlink : (Cond.methodLink own index y).before args s = true) (hinst : (Cond.instanceMethod y).before args s = true) (hsel : (Cond.selects C y y).before args s = true)
    (hcode : (Cond.codeWith y bytes maxL ret hh).before args s = true) (hy : y.cls ≠ "java/lang/invoke/MethodHandle" ∧ y.cls ≠ "java/lang/invoke/VarHandle")
    {W9 : Nat} {Pre : Pt → Array Value → Prop} {Post : Pt → Array Value → Option Value → Pt → Prop} (hK : Back l R p e below s args y 3 W9 Pre Post)
    {b : Addr} {cellB : Cell} (hcell : T.heap[b]? = some cellB) (hobj : cellB.vm.isStatics = false) (hcls : s.vm.findClass C = some cellB.cls)
    {g : JFrame} (hg : g.method = m) (hsize : g.locals.size = c.maxLocals) {argsL rest : List Value} (hlen : ∀ sig, parseMethodDescriptor y.desc = some sig → argsL.length = sig.parameters.length)
    (hstack : g.stack = argsL.reverse ++ .ref b :: rest) (hW : 2 * g.monitorRoom + (rest.map fun v => v.category).sum ≤ W9) (hdg : decode c.code g.pc = .ok (.invokevirtual index, 3))
    (hpre : ∀ vm₁, s.WarmedH vm₁ → Pre ⟨T.setVm vm₁, locs, cells, slots⟩ (Value.ref b :: argsL).toArray) :
    ∃ (v : Option Value) (vm₁ : Vm) (B : Pt), s.WarmedH vm₁ ∧ Stand p l e R s m args below meth c B.U B.locs B.cells B.slots ∧ Post ⟨T.setVm vm₁, locs, cells, slots⟩ (Value.ref b :: argsL).toArray v B ∧
      ∀ target, Steps p.tables e below (B.U.setTop { g with pc := g.pc + 3, stack := v.toList ++ rest }) target → Steps p.tables e below (T.setTop g) target := by
  obtain ⟨mk, methM, hnamed, hmethM, hstM, habM⟩ := Cond.instanceMethod_spec hinst
  obtain ⟨m8, methM', cM, hn8, hmethM', -, -, -, -, -, -, hsigM⟩ := Cond.codeWith_spec hcode
  cases Option.some.inj (hn8.symm.trans hnamed)
  cases hmethM.symm.trans hmethM'
  obtain ⟨c2, r2, m2, q1, q2, q3, q4, kP, hkP, hkPi⟩ := Cond.selects_spec hsel
  cases hcls.symm.trans q1
  cases (State.methodFound?_of_named hnamed hy).symm.trans q2
  cases hnamed.symm.trans q3
  have hselP : selectMethod e.platform s.vm cellB.cls mk = .method mk := by rw [Launch.admits_selectMethod X.admits]; exact q4
  obtain ⟨vm₁, X₁, hstep₁⟩ := X.invokevirtual hexec hown hlink hnamed hmethM hstM hkP hkPi hy (a := b) (cell := cellB) hcell
    (fun z h => by rw [h] at hobj; cases hobj) hselP hmethM habM hkP hkPi (g := g) hg (argsL := argsL) (rest := rest) (hlen _ hsigM) hstack hdg
  obtain ⟨v, B, X', hpost, hsteps⟩ := hK m meth c ⟨T.setVm vm₁, locs, cells, slots⟩ { g with stack := rest } (.invokevirtual index) mk (Value.ref b :: argsL).toArray X₁ hg hsize hdg hW (X₁.named hnamed) (hpre vm₁ X₁.warmed)
  exact ⟨v, vm₁, B, X₁.warmed, X', hpost, fun target h => hstep₁ _ fun acts => by rw [doInvoke_state]; exact hsteps.trans h⟩
abbrev vx_CVW (R : Room) (s : State) (args : Array Value) (own C : String) (index : Nat) (y : MethodName) (bytes : ByteArray) (maxL : Nat) (ret : Option FieldType) (hh : List (Nat × Nat × Nat × Nat)) (ws : List Cond) (rm : Room) (mc ms n : Nat) : Prop :=
  (rm.cells = mc ∧ rm.slots = ms ∧ rm.frames + 1 ≤ R.frames ∧ 8 + (maxL + 11) + rm.locals ≤ R.locals ∧ (∀ w ∈ ws, ∀ (a' : Array Value) (U : State), s.WarmedH U.vm → w.before a' U = true) ∧ Cond.codeWith y bytes maxL ret hh ∈ ws) ∧
  (Cond.codeWith y bytes maxL ret hh).before args s = true ∧ (Cond.initialized y.cls).before args s = true ∧ (y.cls ≠ "java/lang/invoke/MethodHandle" ∧ y.cls ≠ "java/lang/invoke/VarHandle") ∧
  (∀ sig, parseMethodDescriptor y.desc = some sig → n = sig.parameters.length) ∧ (Cond.methodLink own index y).before args s = true ∧ (Cond.instanceMethod y).before args s = true ∧ (Cond.selects C y y).before args s = true
theorem vx_cwVW {own C : String} {index maxL mc ms : Nat} {y : MethodName} {bytes : ByteArray} {ret : Option FieldType} {hh : List (Nat × Nat × Nat × Nat)} {Ts ws ws' : List Cond} {rm : Room} (n : Nat) (ht : ∀ w ∈ Ts, w.before args s = true) (hT : GoodIn Ts (wsV own index C y ws)) (hw : ws = Cond.codeWith y bytes maxL ret hh :: ws') (hrc : rm.cells = mc) (hrs : rm.slots = ms)
    (hd : y.cls = C ∧ y.cls ≠ "java/lang/invoke/MethodHandle" ∧ y.cls ≠ "java/lang/invoke/VarHandle" ∧ (parseMethodDescriptor y.desc).map (fun d => d.parameters.length) = some n) (hR : rm.frames + 1 ≤ R.frames ∧ 8 + (maxL + 11) + rm.locals ≤ R.locals) :
    vx_CVW R s args own C index y bytes maxL ret hh ws rm mc ms n := by
  obtain ⟨hC, hd⟩ := hd
  subst hC
  have ok : ∀ w ∈ wsV own index y.cls y ws, w.before args s = true := fun w h => ht w (hT w h).1
  have hG : GoodIn Ts ws := fun w h => hT w (by unfold wsV; exact List.mem_append_right _ h)
  have hc : Cond.codeWith y bytes maxL ret hh ∈ ws := by rw [hw]; exact List.mem_cons_self
  refine ⟨⟨hrc, hrs, hR.1, hR.2, pay_in ht hG, hc⟩, ht _ (hG _ hc).1, ok _ (by simp [wsV]), ⟨hd.1, hd.2.1⟩, fun sig h => ?_, ok _ (by simp [wsV]), ok _ (by simp [wsV]), ok _ (by simp [wsV])⟩
  have h2 := hd.2.2
  rw [h] at h2
  exact (Option.some.inj h2).symm
theorem vx_runVW {y : MethodName} {bytes cc : ByteArray} {maxL nL mc ms n index : Nat} {ret : Option FieldType} {hh : List (Nat × Nat × Nat × Nat)} {ws : List Cond} {rm : Room} {Pc : Array Value → State → Prop} {Qc : Array Value → State → Outcome → State → Prop} {free : Addr → Prop} {Ts : List Cond} {own C : String} {b : Addr} {As rest : List Value} {g : JFrame}
    (S : CallFix p m c cc nL s args Ts own) (hM : Met l y ws rm Pc Qc mc ms free) (cw : vx_CVW R s args own C index y bytes maxL ret hh ws rm mc ms n) (hp : PreV s H C b Pc As)
    (hg : g.method = m) (hn : As.length = n) (hsize : g.locals.size = nL) (hstack : g.stack = As.reverse ++ .ref b :: rest) (hW : 2 * g.monitorRoom + (rest.map fun v => v.category).sum ≤ 8) (hdg : decode cc g.pc = .ok (.invokevirtual index, 3)) (hf : cells + mc ≤ R.cells ∧ slots + ms ≤ R.slots) :
    va_Run p l e R s m args below meth c H locs cells slots mc ms g rest (Qc (Value.ref b :: As).toArray) free := by
  obtain ⟨⟨hrc, hrs, hfr, hlo, hws, hcw⟩, hcode, hini, hy, hlen, hl, hin, hse⟩ := cw
  have hK : Back l R p e below s args y 3 8 (PreOf R mc ms Pc) (PostOf Qc mc ms free) := va_backW (hh := hh) (bytes := bytes) (maxL := maxL) (ret := ret) hM hp.1 hrc hrs hfr hlo hws hcw (fun a' U hW => word_at hW (Or.inl (by first | rfl | simp [Cond.onTables, Cond.keeps, Cond.steady])) hini)
  obtain ⟨hx, hb, hml, ho, -⟩ := S
  obtain ⟨-, ⟨cellB, hcB, hoB, hclB⟩, hPc⟩ := hp
  intro T hT X
  obtain ⟨v, vm₁, ⟨U', l2, c2, s2⟩, hW₁, X', ⟨g', mk, t, L, e1, e2, hq, h1, hL, h2, h3⟩, st⟩ := vx_callVW X hx (C := C) (hh := hh) (bytes := bytes) (maxL := maxL) (ret := ret) ho hl hin hse hcode hy hK (by rw [hT]; exact hcB) hoB hclB hg (hsize.trans hml.symm) (argsL := As) (rest := rest) (fun sig h => hn.trans (hlen sig h)) hstack hW (by rw [hb]; exact hdg)
    (fun vm₁ hW₁ => ⟨hf.1, hf.2, hPc (T.setVm vm₁) hT hW₁⟩)
  dsimp only [Pt.U, Pt.locs, Pt.cells, Pt.slots] at X' e1 e2 h1 h2 h3 st
  subst h1; subst h2; subst h3
  exact ⟨v, (T.setVm vm₁).calling g' mk (Value.ref b :: As).toArray, t, U', L, hT, X', hL, e1, e2, hq, st⟩
section
variable {y : MethodName} {bytes cc : ByteArray} {maxL nL mc ms n index : Nat} {ret : Option FieldType} {ws : List Cond} {rm : Room} {Pc : Array Value → State → Prop} {Qc : Array Value → State → Outcome → State → Prop} {XC : String → State → State → Prop} {free : Addr → Prop} {Ts : List Cond} {own C : String} {b : Addr} {As rest : List Value} {g : JFrame}
theorem vx_runVX {hh : List (Nat × Nat × Nat × Nat)} (S : CallFix p m c cc nL s args Ts own) (hM : vx_Met l y ws rm Pc Qc XC mc ms free) (cw : vx_CVW R s args own C index y bytes maxL ret hh ws rm mc ms n) (hp : PreV s H C b Pc As)
    (hg : g.method = m) (hn : As.length = n) (hsize : g.locals.size = nL) (hstack : g.stack = As.reverse ++ .ref b :: rest) (hW : 2 * g.monitorRoom + (rest.map fun v => v.category).sum ≤ 8) (hdg : decode cc g.pc = .ok (.invokevirtual index, 3)) (hf : cells + mc ≤ R.cells ∧ slots + ms ≤ R.slots) :
    vx_Run p l e R s m args below meth c H locs cells slots mc ms g rest (Qc (Value.ref b :: As).toArray) XC free := by
  obtain ⟨⟨hrc, hrs, hfr, hlo, hws, hcw⟩, hcode, hini, hy, hlen, hl, hin, hse⟩ := cw
  have hK : vx_Back l R p e below s args y 3 8 (PreOf R mc ms Pc) (PostOf Qc mc ms free) (vx_Post XC mc ms free) := vx_backW (hh := hh) (bytes := bytes) (maxL := maxL) (ret := ret) hM hp.1 hrc hrs hfr hlo hws hcw (fun a' U hW => word_at hW (Or.inl (by first | rfl | simp [Cond.onTables, Cond.keeps, Cond.steady])) hini)
  obtain ⟨hx, hb, hml, ho, -⟩ := S
  obtain ⟨-, ⟨cellB, hcB, hoB, hclB⟩, hPc⟩ := hp
  intro T hT X
  rcases vx_callVX X hx (C := C) (hh := hh) (bytes := bytes) (maxL := maxL) (ret := ret) ho hl hin hse hcode hy hK (by rw [hT]; exact hcB) hoB hclB hg (hsize.trans hml.symm) (argsL := As) (rest := rest) (fun sig h => hn.trans (hlen sig h)) hstack hW (by rw [hb]; exact hdg)
    (fun vm₁ hW₁ => ⟨hf.1, hf.2, hPc (T.setVm vm₁) hT hW₁⟩) with ⟨v, vm₁, ⟨U', l2, c2, s2⟩, hW₁, X', ⟨g', mk, t, L, e1, e2, hq, h1, hL, h2, h3⟩, st⟩ | ⟨q, vm₁, ⟨U', l2, c2, s2⟩, hW₁, X', ⟨g', mk, t, L, E, ce, e1, e2, hq, hce, hcv, hcl, h1, hL, h2, h3⟩, st⟩
  · dsimp only [Pt.U, Pt.locs, Pt.cells, Pt.slots] at X' e1 e2 h1 h2 h3 st
    subst h1; subst h2; subst h3
    exact Or.inl ⟨v, (T.setVm vm₁).calling g' mk (Value.ref b :: As).toArray, t, U', L, hT, X', hL, e1, e2, hq, st⟩
  · dsimp only [Pt.U, Pt.locs, Pt.cells, Pt.slots] at X' e1 e2 h1 h2 h3 st hcl
    subst h1; subst h2; subst h3
    exact Or.inr ⟨q, (T.setVm vm₁).calling g' mk (Value.ref b :: As).toArray, t, U', L, E, ce, hT, X', hL, e1, e2, hq, hce, hcv, vx_cls hW₁ hcl, st⟩
theorem vx_runSX {hh : List (Nat × Nat × Nat × Nat)} (S : CallFix p m c cc nL s args Ts own) (hM : vx_Met l y ws rm Pc Qc XC mc ms free) (cw : vx_CSW R s args own index y bytes maxL ret hh ws rm mc ms n) (hp : PreS s H Pc As)
    (hg : g.method = m) (hn : As.length = n) (hsize : g.locals.size = nL) (hstack : g.stack = As.reverse ++ rest) (hW : 2 * g.monitorRoom + (rest.map fun v => v.category).sum ≤ 8) (hdg : decode cc g.pc = .ok (.invokestatic index, 3)) (hf : cells + mc ≤ R.cells ∧ slots + ms ≤ R.slots) :
    vx_Run p l e R s m args below meth c H locs cells slots mc ms g rest (Qc As.toArray) XC free := by
  obtain ⟨⟨hrc, hrs, hfr, hlo, hws, hcw⟩, hcode, hini, hy, hlen, hl, hstt⟩ := cw
  have hK : vx_Back l R p e below s args y 3 8 (PreOf R mc ms Pc) (PostOf Qc mc ms free) (vx_Post XC mc ms free) := vx_backW (hh := hh) (bytes := bytes) (maxL := maxL) (ret := ret) hM hp.1 hrc hrs hfr hlo hws hcw (fun a' U hW => word_at hW (Or.inl (by first | rfl | simp [Cond.onTables, Cond.keeps, Cond.steady])) hini)
  obtain ⟨hx, hb, hml, ho, -⟩ := S
  intro T hT X
  rcases vx_callSX X hx (hh := hh) (bytes := bytes) (maxL := maxL) (ret := ret) ho hl hstt hini hcode hy hK hg (hsize.trans hml.symm) (argsL := As) (rest := rest) (fun sig h => hn.trans (hlen sig h)) hstack hW (by rw [hb]; exact hdg)
    (fun vm₁ hW₁ => ⟨hf.1, hf.2, hp.2 (T.setVm vm₁) hT hW₁⟩) with ⟨v, vm₁, ⟨U', l2, c2, s2⟩, hW₁, X', ⟨g', mk, t, L, e1, e2, hq, h1, hL, h2, h3⟩, st⟩ | ⟨q, vm₁, ⟨U', l2, c2, s2⟩, hW₁, X', ⟨g', mk, t, L, E, ce, e1, e2, hq, hce, hcv, hcl, h1, hL, h2, h3⟩, st⟩
  · dsimp only [Pt.U, Pt.locs, Pt.cells, Pt.slots] at X' e1 e2 h1 h2 h3 st
    subst h1; subst h2; subst h3
    exact Or.inl ⟨v, (T.setVm vm₁).calling g' mk As.toArray, t, U', L, hT, X', hL, e1, e2, hq, st⟩
  · dsimp only [Pt.U, Pt.locs, Pt.cells, Pt.slots] at X' e1 e2 h1 h2 h3 st hcl
    subst h1; subst h2; subst h3
    exact Or.inr ⟨q, (T.setVm vm₁).calling g' mk As.toArray, t, U', L, E, ce, hT, X', hL, e1, e2, hq, hce, hcv, vx_cls hW₁ hcl, st⟩
end
end VXH
theorem vx_ofWH {l : Launch} {y : MethodName} {ws ws' : List Cond} {rm : Room} {Pc : Array Value → State → Prop} {Qc : Array Value → State → Outcome → State → Prop} {XC : String → State → State → Prop} {mc ms : Nat} {free : Addr → Prop} {cc : ByteArray} {maxL : Nat} {ret : Option FieldType} {hh : List (Nat × Nat × Nat × Nat)}
    (hy : plainName y.cls = true) (hw : ws = Cond.codeWith y cc maxL ret hh :: ws')
    (body : ∀ p e s m args below meth c s₁, BodyLoose p l y (headSpec ws rm) cc maxL ret e s m args below meth c s₁ → c.maxLocals = maxL → Pc args s →
      W p l e (headSpec ws rm).room s m args below meth c s.heap [] 0 0 (vx_MQ below Qc XC args s mc ms free) (entryFrame m args maxL)) : vx_Met l y ws rm Pc Qc XC mc ms free := by
  refine MetFree.of_bodyS (code := cc) (maxLocals := maxL) (ret := ret) hy ?_ ?_
  · intro args s m h hn
    obtain ⟨m9, meth, c, hn9, h1, h2, h3, h4, -, h5, h6, -⟩ := Cond.codeWith_spec (atoms_spec (ws := ws) h _ (by rw [hw]; exact List.mem_cons_self))
    cases hn.symm.trans hn9
    exact ⟨meth, c, h1, h2, h3, h4, h5, h6⟩
  · intro p e s m args below meth c s₁ B hml hP _
    have hh0 : s₁.heap = s.heap := by rw [B.state]; rfl
    obtain ⟨t, a1, o, b1, b2, b3⟩ := body p e s m args below meth c s₁ B hml hP s₁ hh0 (Stand.of_body B)
    exact ⟨t, o, a1, b1, b2, b3⟩
/-! ===== END ===== -/
end
section
-- ===== PART A: goes FIRST, ahead of the names: the tables' words, and 'selects' of the private methods out of them =====
/-- a private method of a class that the tables say can be made, by its rows of tables_1 -/
def lw_okq (q : MethodName × Nat) : Prop := (q.1.cls ≠ "java/lang/invoke/MethodHandle" ∧ q.1.cls ≠ "java/lang/invoke/VarHandle") ∧ Cond.instantiable q.1.cls q.2 ∈ tables_1 ∧ Cond.privateMethod q.1 ∈ tables_1 ∧ Cond.instanceMethod q.1 ∈ tables_1
theorem lw_p0 : lw_okq (⟨"PrefixCodeIndex", "resultCountsAgree", "()Z"⟩, 12) := ⟨⟨by decide +kernel, by decide +kernel⟩, List.mem_of_getElem? (i := 27) (by decide +kernel), List.mem_of_getElem? (i := 299) (by decide +kernel), List.mem_of_getElem? (i := 300) (by decide +kernel)⟩
theorem lw_p1 : lw_okq (⟨"java/lang/Throwable", "fillInStackTrace", "(I)Ljava/lang/Throwable;"⟩, 6) := ⟨⟨by decide +kernel, by decide +kernel⟩, List.mem_of_getElem? (i := 357) (by decide +kernel), List.mem_of_getElem? (i := 355) (by decide +kernel), List.mem_of_getElem? (i := 356) (by decide +kernel)⟩
theorem lw_p2 : lw_okq (⟨"PrefixCodeIndex", "freshTrie", "()LPrefixCodeIndex$Trie;"⟩, 12) := ⟨⟨by decide +kernel, by decide +kernel⟩, List.mem_of_getElem? (i := 27) (by decide +kernel), List.mem_of_getElem? (i := 387) (by decide +kernel), List.mem_of_getElem? (i := 388) (by decide +kernel)⟩
theorem lw_p3 : lw_okq (⟨"PrefixCodeIndex$Trie", "countCode", "(II)V"⟩, 2) := ⟨⟨by decide +kernel, by decide +kernel⟩, List.mem_of_getElem? (i := 142) (by decide +kernel), List.mem_of_getElem? (i := 401) (by decide +kernel), List.mem_of_getElem? (i := 402) (by decide +kernel)⟩
theorem lw_p4 : lw_okq (⟨"PrefixCodeIndex", "sharedDigitsAgree", "()Z"⟩, 12) := ⟨⟨by decide +kernel, by decide +kernel⟩, List.mem_of_getElem? (i := 27) (by decide +kernel), List.mem_of_getElem? (i := 430) (by decide +kernel), List.mem_of_getElem? (i := 431) (by decide +kernel)⟩
theorem lw_p5 : lw_okq (⟨"PrefixCodeIndex", "fadingAgrees", "()Z"⟩, 12) := ⟨⟨by decide +kernel, by decide +kernel⟩, List.mem_of_getElem? (i := 27) (by decide +kernel), List.mem_of_getElem? (i := 461) (by decide +kernel), List.mem_of_getElem? (i := 462) (by decide +kernel)⟩
theorem lw_p6 : lw_okq (⟨"PrefixCodeIndex", "existing", "(I)LPrefixCodeIndex$Entry;"⟩, 12) := ⟨⟨by decide +kernel, by decide +kernel⟩, List.mem_of_getElem? (i := 27) (by decide +kernel), List.mem_of_getElem? (i := 469) (by decide +kernel), List.mem_of_getElem? (i := 470) (by decide +kernel)⟩
theorem lw_p7 : lw_okq (⟨"PrefixCodeIndex", "totalsAgree", "()Z"⟩, 12) := ⟨⟨by decide +kernel, by decide +kernel⟩, List.mem_of_getElem? (i := 27) (by decide +kernel), List.mem_of_getElem? (i := 516) (by decide +kernel), List.mem_of_getElem? (i := 517) (by decide +kernel)⟩
theorem lw_p8 : lw_okq (⟨"PrefixCodeIndex", "change", "(III)I"⟩, 12) := ⟨⟨by decide +kernel, by decide +kernel⟩, List.mem_of_getElem? (i := 27) (by decide +kernel), List.mem_of_getElem? (i := 542) (by decide +kernel), List.mem_of_getElem? (i := 543) (by decide +kernel)⟩
theorem lw_p9 : lw_okq (⟨"PrefixCodeIndex$Contents", "putEntry", "(I)I"⟩, 8) := ⟨⟨by decide +kernel, by decide +kernel⟩, List.mem_of_getElem? (i := 35) (by decide +kernel), List.mem_of_getElem? (i := 555) (by decide +kernel), List.mem_of_getElem? (i := 556) (by decide +kernel)⟩
theorem lw_p10 : lw_okq (⟨"PrefixCodeIndex$Contents", "putCode", "(II)I"⟩, 8) := ⟨⟨by decide +kernel, by decide +kernel⟩, List.mem_of_getElem? (i := 35) (by decide +kernel), List.mem_of_getElem? (i := 563) (by decide +kernel), List.mem_of_getElem? (i := 564) (by decide +kernel)⟩
theorem lw_p11 : lw_okq (⟨"PrefixCodeIndex$Contents", "takeCode", "(II)I"⟩, 8) := ⟨⟨by decide +kernel, by decide +kernel⟩, List.mem_of_getElem? (i := 35) (by decide +kernel), List.mem_of_getElem? (i := 577) (by decide +kernel), List.mem_of_getElem? (i := 578) (by decide +kernel)⟩
theorem lw_p12 : lw_okq (⟨"PrefixCodeIndex$Contents", "takeEntry", "(I)I"⟩, 8) := ⟨⟨by decide +kernel, by decide +kernel⟩, List.mem_of_getElem? (i := 35) (by decide +kernel), List.mem_of_getElem? (i := 585) (by decide +kernel), List.mem_of_getElem? (i := 586) (by decide +kernel)⟩
theorem lw_p13 : lw_okq (⟨"PrefixCodeIndex$Contents", "discard", "(LPrefixCodeIndex$Entry;)V"⟩, 8) := ⟨⟨by decide +kernel, by decide +kernel⟩, List.mem_of_getElem? (i := 35) (by decide +kernel), List.mem_of_getElem? (i := 589) (by decide +kernel), List.mem_of_getElem? (i := 590) (by decide +kernel)⟩
theorem lw_p14 : lw_okq (⟨"PrefixCodeIndex$Contents", "freshen", "(I)I"⟩, 8) := ⟨⟨by decide +kernel, by decide +kernel⟩, List.mem_of_getElem? (i := 35) (by decide +kernel), List.mem_of_getElem? (i := 593) (by decide +kernel), List.mem_of_getElem? (i := 594) (by decide +kernel)⟩
theorem lw_p15 : lw_okq (⟨"PrefixCodeIndex$Contents", "mergeInto", "(II)I"⟩, 8) := ⟨⟨by decide +kernel, by decide +kernel⟩, List.mem_of_getElem? (i := 35) (by decide +kernel), List.mem_of_getElem? (i := 597) (by decide +kernel), List.mem_of_getElem? (i := 598) (by decide +kernel)⟩
def lw_privs_1 : List (MethodName × Nat) := [(⟨"PrefixCodeIndex", "resultCountsAgree", "()Z"⟩, 12), (⟨"java/lang/Throwable", "fillInStackTrace", "(I)Ljava/lang/Throwable;"⟩, 6), (⟨"PrefixCodeIndex", "freshTrie", "()LPrefixCodeIndex$Trie;"⟩, 12), (⟨"PrefixCodeIndex$Trie", "countCode", "(II)V"⟩, 2), (⟨"PrefixCodeIndex", "sharedDigitsAgree", "()Z"⟩, 12), (⟨"PrefixCodeIndex", "fadingAgrees", "()Z"⟩, 12), (⟨"PrefixCodeIndex", "existing", "(I)LPrefixCodeIndex$Entry;"⟩, 12), (⟨"PrefixCodeIndex", "totalsAgree", "()Z"⟩, 12), (⟨"PrefixCodeIndex", "change", "(III)I"⟩, 12), (⟨"PrefixCodeIndex$Contents", "putEntry", "(I)I"⟩, 8), (⟨"PrefixCodeIndex$Contents", "putCode", "(II)I"⟩, 8), (⟨"PrefixCodeIndex$Contents", "takeCode", "(II)I"⟩, 8), (⟨"PrefixCodeIndex$Contents", "takeEntry", "(I)I"⟩, 8), (⟨"PrefixCodeIndex$Contents", "discard", "(LPrefixCodeIndex$Entry;)V"⟩, 8), (⟨"PrefixCodeIndex$Contents", "freshen", "(I)I"⟩, 8), (⟨"PrefixCodeIndex$Contents", "mergeInto", "(II)I"⟩, 8)]
theorem lw_r1 : ∀ q ∈ lw_privs_1, lw_okq q := List.forall_mem_cons.mpr ⟨lw_p0, List.forall_mem_cons.mpr ⟨lw_p1, List.forall_mem_cons.mpr ⟨lw_p2, List.forall_mem_cons.mpr ⟨lw_p3, List.forall_mem_cons.mpr ⟨lw_p4, List.forall_mem_cons.mpr ⟨lw_p5, List.forall_mem_cons.mpr ⟨lw_p6, List.forall_mem_cons.mpr ⟨lw_p7, List.forall_mem_cons.mpr ⟨lw_p8, List.forall_mem_cons.mpr ⟨lw_p9, List.forall_mem_cons.mpr ⟨lw_p10, List.forall_mem_cons.mpr ⟨lw_p11, List.forall_mem_cons.mpr ⟨lw_p12, List.forall_mem_cons.mpr ⟨lw_p13, List.forall_mem_cons.mpr ⟨lw_p14, List.forall_mem_cons.mpr ⟨lw_p15, fun _ h => absurd h List.not_mem_nil⟩⟩⟩⟩⟩⟩⟩⟩⟩⟩⟩⟩⟩⟩⟩⟩
theorem lw_p16 : lw_okq (⟨"PrefixCodeIndex$Contents", "openSegment", "()I"⟩, 8) := ⟨⟨by decide +kernel, by decide +kernel⟩, List.mem_of_getElem? (i := 35) (by decide +kernel), List.mem_of_getElem? (i := 615) (by decide +kernel), List.mem_of_getElem? (i := 616) (by decide +kernel)⟩
theorem lw_p17 : lw_okq (⟨"PrefixCodeIndex$Contents", "joinWithNext", "(I)I"⟩, 8) := ⟨⟨by decide +kernel, by decide +kernel⟩, List.mem_of_getElem? (i := 35) (by decide +kernel), List.mem_of_getElem? (i := 619) (by decide +kernel), List.mem_of_getElem? (i := 620) (by decide +kernel)⟩
theorem lw_p18 : lw_okq (⟨"PrefixCodeIndex$Contents", "hitAll", "(II)I"⟩, 8) := ⟨⟨by decide +kernel, by decide +kernel⟩, List.mem_of_getElem? (i := 35) (by decide +kernel), List.mem_of_getElem? (i := 623) (by decide +kernel), List.mem_of_getElem? (i := 624) (by decide +kernel)⟩
theorem lw_p19 : lw_okq (⟨"PrefixCodeIndex$Contents", "passDays", "(I)I"⟩, 8) := ⟨⟨by decide +kernel, by decide +kernel⟩, List.mem_of_getElem? (i := 35) (by decide +kernel), List.mem_of_getElem? (i := 629) (by decide +kernel), List.mem_of_getElem? (i := 630) (by decide +kernel)⟩
theorem lw_p20 : lw_okq (⟨"PrefixCodeIndex$Contents", "passDay", "()I"⟩, 8) := ⟨⟨by decide +kernel, by decide +kernel⟩, List.mem_of_getElem? (i := 35) (by decide +kernel), List.mem_of_getElem? (i := 633) (by decide +kernel), List.mem_of_getElem? (i := 634) (by decide +kernel)⟩
theorem lw_p21 : lw_okq (⟨"PrefixCodeIndex$Ranking", "place", "(II)V"⟩, 3) := ⟨⟨by decide +kernel, by decide +kernel⟩, List.mem_of_getElem? (i := 155) (by decide +kernel), List.mem_of_getElem? (i := 869) (by decide +kernel), List.mem_of_getElem? (i := 870) (by decide +kernel)⟩
theorem lw_p22 : lw_okq (⟨"PrefixCodeIndex$Program", "readCommand", "()Z"⟩, 9) := ⟨⟨by decide +kernel, by decide +kernel⟩, List.mem_of_getElem? (i := 174) (by decide +kernel), List.mem_of_getElem? (i := 1081) (by decide +kernel), List.mem_of_getElem? (i := 1082) (by decide +kernel)⟩
theorem lw_p23 : lw_okq (⟨"PrefixCodeIndex$Program", "readWord", "()I"⟩, 9) := ⟨⟨by decide +kernel, by decide +kernel⟩, List.mem_of_getElem? (i := 174) (by decide +kernel), List.mem_of_getElem? (i := 1085) (by decide +kernel), List.mem_of_getElem? (i := 1086) (by decide +kernel)⟩
theorem lw_p24 : lw_okq (⟨"PrefixCodeIndex$Program", "matchedLetters", "(Ljava/lang/String;)I"⟩, 9) := ⟨⟨by decide +kernel, by decide +kernel⟩, List.mem_of_getElem? (i := 174) (by decide +kernel), List.mem_of_getElem? (i := 1102) (by decide +kernel), List.mem_of_getElem? (i := 1103) (by decide +kernel)⟩
theorem lw_p25 : lw_okq (⟨"PrefixCodeIndex$Program", "readArguments", "(I)Z"⟩, 9) := ⟨⟨by decide +kernel, by decide +kernel⟩, List.mem_of_getElem? (i := 174) (by decide +kernel), List.mem_of_getElem? (i := 1155) (by decide +kernel), List.mem_of_getElem? (i := 1156) (by decide +kernel)⟩
theorem lw_p26 : lw_okq (⟨"PrefixCodeIndex$Program", "readFirst", "(I)Z"⟩, 9) := ⟨⟨by decide +kernel, by decide +kernel⟩, List.mem_of_getElem? (i := 174) (by decide +kernel), List.mem_of_getElem? (i := 1159) (by decide +kernel), List.mem_of_getElem? (i := 1160) (by decide +kernel)⟩
theorem lw_p27 : lw_okq (⟨"PrefixCodeIndex$Program", "readNumber", "(I)Z"⟩, 9) := ⟨⟨by decide +kernel, by decide +kernel⟩, List.mem_of_getElem? (i := 174) (by decide +kernel), List.mem_of_getElem? (i := 1163) (by decide +kernel), List.mem_of_getElem? (i := 1164) (by decide +kernel)⟩
theorem lw_p28 : lw_okq (⟨"PrefixCodeIndex$Program", "stands", "(C)Z"⟩, 9) := ⟨⟨by decide +kernel, by decide +kernel⟩, List.mem_of_getElem? (i := 174) (by decide +kernel), List.mem_of_getElem? (i := 1167) (by decide +kernel), List.mem_of_getElem? (i := 1168) (by decide +kernel)⟩
theorem lw_p29 : lw_okq (⟨"PrefixCodeIndex$Program", "digitStands", "()Z"⟩, 9) := ⟨⟨by decide +kernel, by decide +kernel⟩, List.mem_of_getElem? (i := 174) (by decide +kernel), List.mem_of_getElem? (i := 1171) (by decide +kernel), List.mem_of_getElem? (i := 1172) (by decide +kernel)⟩
theorem lw_p30 : lw_okq (⟨"PrefixCodeIndex$Program", "readSecond", "()Z"⟩, 9) := ⟨⟨by decide +kernel, by decide +kernel⟩, List.mem_of_getElem? (i := 174) (by decide +kernel), List.mem_of_getElem? (i := 1175) (by decide +kernel), List.mem_of_getElem? (i := 1176) (by decide +kernel)⟩
theorem lw_p31 : lw_okq (⟨"PrefixCodeIndex$Program", "readPrefix", "()Z"⟩, 9) := ⟨⟨by decide +kernel, by decide +kernel⟩, List.mem_of_getElem? (i := 174) (by decide +kernel), List.mem_of_getElem? (i := 1179) (by decide +kernel), List.mem_of_getElem? (i := 1180) (by decide +kernel)⟩
def lw_privs_2 : List (MethodName × Nat) := [(⟨"PrefixCodeIndex$Contents", "openSegment", "()I"⟩, 8), (⟨"PrefixCodeIndex$Contents", "joinWithNext", "(I)I"⟩, 8), (⟨"PrefixCodeIndex$Contents", "hitAll", "(II)I"⟩, 8), (⟨"PrefixCodeIndex$Contents", "passDays", "(I)I"⟩, 8), (⟨"PrefixCodeIndex$Contents", "passDay", "()I"⟩, 8), (⟨"PrefixCodeIndex$Ranking", "place", "(II)V"⟩, 3), (⟨"PrefixCodeIndex$Program", "readCommand", "()Z"⟩, 9), (⟨"PrefixCodeIndex$Program", "readWord", "()I"⟩, 9), (⟨"PrefixCodeIndex$Program", "matchedLetters", "(Ljava/lang/String;)I"⟩, 9), (⟨"PrefixCodeIndex$Program", "readArguments", "(I)Z"⟩, 9), (⟨"PrefixCodeIndex$Program", "readFirst", "(I)Z"⟩, 9), (⟨"PrefixCodeIndex$Program", "readNumber", "(I)Z"⟩, 9), (⟨"PrefixCodeIndex$Program", "stands", "(C)Z"⟩, 9), (⟨"PrefixCodeIndex$Program", "digitStands", "()Z"⟩, 9), (⟨"PrefixCodeIndex$Program", "readSecond", "()Z"⟩, 9), (⟨"PrefixCodeIndex$Program", "readPrefix", "()Z"⟩, 9)]
theorem lw_r2 : ∀ q ∈ lw_privs_2, lw_okq q := List.forall_mem_cons.mpr ⟨lw_p16, List.forall_mem_cons.mpr ⟨lw_p17, List.forall_mem_cons.mpr ⟨lw_p18, List.forall_mem_cons.mpr ⟨lw_p19, List.forall_mem_cons.mpr ⟨lw_p20, List.forall_mem_cons.mpr ⟨lw_p21, List.forall_mem_cons.mpr ⟨lw_p22, List.forall_mem_cons.mpr ⟨lw_p23, List.forall_mem_cons.mpr ⟨lw_p24, List.forall_mem_cons.mpr ⟨lw_p25, List.forall_mem_cons.mpr ⟨lw_p26, List.forall_mem_cons.mpr ⟨lw_p27, List.forall_mem_cons.mpr ⟨lw_p28, List.forall_mem_cons.mpr ⟨lw_p29, List.forall_mem_cons.mpr ⟨lw_p30, List.forall_mem_cons.mpr ⟨lw_p31, fun _ h => absurd h List.not_mem_nil⟩⟩⟩⟩⟩⟩⟩⟩⟩⟩⟩⟩⟩⟩⟩⟩
theorem lw_p32 : lw_okq (⟨"PrefixCodeIndex", "firstFailing", "()I"⟩, 12) := ⟨⟨by decide +kernel, by decide +kernel⟩, List.mem_of_getElem? (i := 27) (by decide +kernel), List.mem_of_getElem? (i := 1188) (by decide +kernel), List.mem_of_getElem? (i := 1189) (by decide +kernel)⟩
theorem lw_p33 : lw_okq (⟨"PrefixCodeIndexModel", "starts", "()V"⟩, 21) := ⟨⟨by decide +kernel, by decide +kernel⟩, List.mem_of_getElem? (i := 1237) (by decide +kernel), List.mem_of_getElem? (i := 1315) (by decide +kernel), List.mem_of_getElem? (i := 1316) (by decide +kernel)⟩
theorem lw_p34 : lw_okq (⟨"PrefixCodeIndexModel", "entryIt", "(I)I"⟩, 21) := ⟨⟨by decide +kernel, by decide +kernel⟩, List.mem_of_getElem? (i := 1237) (by decide +kernel), List.mem_of_getElem? (i := 1319) (by decide +kernel), List.mem_of_getElem? (i := 1320) (by decide +kernel)⟩
theorem lw_p35 : lw_okq (⟨"PrefixCodeIndexModel", "throwing", "(I)I"⟩, 21) := ⟨⟨by decide +kernel, by decide +kernel⟩, List.mem_of_getElem? (i := 1237) (by decide +kernel), List.mem_of_getElem? (i := 1327) (by decide +kernel), List.mem_of_getElem? (i := 1328) (by decide +kernel)⟩
theorem lw_p36 : lw_okq (⟨"PrefixCodeIndexModel", "changed", "(I)I"⟩, 21) := ⟨⟨by decide +kernel, by decide +kernel⟩, List.mem_of_getElem? (i := 1237) (by decide +kernel), List.mem_of_getElem? (i := 1334) (by decide +kernel), List.mem_of_getElem? (i := 1335) (by decide +kernel)⟩
theorem lw_p37 : lw_okq (⟨"PrefixCodeIndexModel", "codeIt", "(II)I"⟩, 21) := ⟨⟨by decide +kernel, by decide +kernel⟩, List.mem_of_getElem? (i := 1237) (by decide +kernel), List.mem_of_getElem? (i := 1342) (by decide +kernel), List.mem_of_getElem? (i := 1343) (by decide +kernel)⟩
theorem lw_p38 : lw_okq (⟨"PrefixCodeIndexModel", "find", "(I)I"⟩, 21) := ⟨⟨by decide +kernel, by decide +kernel⟩, List.mem_of_getElem? (i := 1237) (by decide +kernel), List.mem_of_getElem? (i := 1346) (by decide +kernel), List.mem_of_getElem? (i := 1347) (by decide +kernel)⟩
theorem lw_p39 : lw_okq (⟨"PrefixCodeIndexModel", "many", "(III)I"⟩, 21) := ⟨⟨by decide +kernel, by decide +kernel⟩, List.mem_of_getElem? (i := 1237) (by decide +kernel), List.mem_of_getElem? (i := 1351) (by decide +kernel), List.mem_of_getElem? (i := 1352) (by decide +kernel)⟩
theorem lw_p40 : lw_okq (⟨"PrefixCodeIndexModel", "codeOf", "(II)I"⟩, 21) := ⟨⟨by decide +kernel, by decide +kernel⟩, List.mem_of_getElem? (i := 1237) (by decide +kernel), List.mem_of_getElem? (i := 1355) (by decide +kernel), List.mem_of_getElem? (i := 1356) (by decide +kernel)⟩
theorem lw_p41 : lw_okq (⟨"PrefixCodeIndexModel", "puts", "(II)V"⟩, 21) := ⟨⟨by decide +kernel, by decide +kernel⟩, List.mem_of_getElem? (i := 1237) (by decide +kernel), List.mem_of_getElem? (i := 1365) (by decide +kernel), List.mem_of_getElem? (i := 1366) (by decide +kernel)⟩
theorem lw_p42 : lw_okq (⟨"PrefixCodeIndexModel", "uncodeIt", "(II)I"⟩, 21) := ⟨⟨by decide +kernel, by decide +kernel⟩, List.mem_of_getElem? (i := 1237) (by decide +kernel), List.mem_of_getElem? (i := 1373) (by decide +kernel), List.mem_of_getElem? (i := 1374) (by decide +kernel)⟩
theorem lw_p43 : lw_okq (⟨"PrefixCodeIndexModel", "dropIt", "(I)I"⟩, 21) := ⟨⟨by decide +kernel, by decide +kernel⟩, List.mem_of_getElem? (i := 1237) (by decide +kernel), List.mem_of_getElem? (i := 1381) (by decide +kernel), List.mem_of_getElem? (i := 1382) (by decide +kernel)⟩
theorem lw_p44 : lw_okq (⟨"PrefixCodeIndexModel", "leaves", "(I)V"⟩, 21) := ⟨⟨by decide +kernel, by decide +kernel⟩, List.mem_of_getElem? (i := 1237) (by decide +kernel), List.mem_of_getElem? (i := 1385) (by decide +kernel), List.mem_of_getElem? (i := 1386) (by decide +kernel)⟩
theorem lw_p45 : lw_okq (⟨"PrefixCodeIndexModel", "touchIt", "(I)I"⟩, 21) := ⟨⟨by decide +kernel, by decide +kernel⟩, List.mem_of_getElem? (i := 1237) (by decide +kernel), List.mem_of_getElem? (i := 1393) (by decide +kernel), List.mem_of_getElem? (i := 1394) (by decide +kernel)⟩
theorem lw_p46 : lw_okq (⟨"PrefixCodeIndexModel", "mergeIt", "(II)I"⟩, 21) := ⟨⟨by decide +kernel, by decide +kernel⟩, List.mem_of_getElem? (i := 1237) (by decide +kernel), List.mem_of_getElem? (i := 1401) (by decide +kernel), List.mem_of_getElem? (i := 1402) (by decide +kernel)⟩
theorem lw_p47 : lw_okq (⟨"PrefixCodeIndexModel", "common", "(II)I"⟩, 21) := ⟨⟨by decide +kernel, by decide +kernel⟩, List.mem_of_getElem? (i := 1237) (by decide +kernel), List.mem_of_getElem? (i := 1405) (by decide +kernel), List.mem_of_getElem? (i := 1406) (by decide +kernel)⟩
def lw_privs_3 : List (MethodName × Nat) := [(⟨"PrefixCodeIndex", "firstFailing", "()I"⟩, 12), (⟨"PrefixCodeIndexModel", "starts", "()V"⟩, 21), (⟨"PrefixCodeIndexModel", "entryIt", "(I)I"⟩, 21), (⟨"PrefixCodeIndexModel", "throwing", "(I)I"⟩, 21), (⟨"PrefixCodeIndexModel", "changed", "(I)I"⟩, 21), (⟨"PrefixCodeIndexModel", "codeIt", "(II)I"⟩, 21), (⟨"PrefixCodeIndexModel", "find", "(I)I"⟩, 21), (⟨"PrefixCodeIndexModel", "many", "(III)I"⟩, 21), (⟨"PrefixCodeIndexModel", "codeOf", "(II)I"⟩, 21), (⟨"PrefixCodeIndexModel", "puts", "(II)V"⟩, 21), (⟨"PrefixCodeIndexModel", "uncodeIt", "(II)I"⟩, 21), (⟨"PrefixCodeIndexModel", "dropIt", "(I)I"⟩, 21), (⟨"PrefixCodeIndexModel", "leaves", "(I)V"⟩, 21), (⟨"PrefixCodeIndexModel", "touchIt", "(I)I"⟩, 21), (⟨"PrefixCodeIndexModel", "mergeIt", "(II)I"⟩, 21), (⟨"PrefixCodeIndexModel", "common", "(II)I"⟩, 21)]
theorem lw_r3 : ∀ q ∈ lw_privs_3, lw_okq q := List.forall_mem_cons.mpr ⟨lw_p32, List.forall_mem_cons.mpr ⟨lw_p33, List.forall_mem_cons.mpr ⟨lw_p34, List.forall_mem_cons.mpr ⟨lw_p35, List.forall_mem_cons.mpr ⟨lw_p36, List.forall_mem_cons.mpr ⟨lw_p37, List.forall_mem_cons.mpr ⟨lw_p38, List.forall_mem_cons.mpr ⟨lw_p39, List.forall_mem_cons.mpr ⟨lw_p40, List.forall_mem_cons.mpr ⟨lw_p41, List.forall_mem_cons.mpr ⟨lw_p42, List.forall_mem_cons.mpr ⟨lw_p43, List.forall_mem_cons.mpr ⟨lw_p44, List.forall_mem_cons.mpr ⟨lw_p45, List.forall_mem_cons.mpr ⟨lw_p46, List.forall_mem_cons.mpr ⟨lw_p47, fun _ h => absurd h List.not_mem_nil⟩⟩⟩⟩⟩⟩⟩⟩⟩⟩⟩⟩⟩⟩⟩⟩
theorem lw_p48 : lw_okq (⟨"PrefixCodeIndexModel", "segmentIt", "()I"⟩, 21) := ⟨⟨by decide +kernel, by decide +kernel⟩, List.mem_of_getElem? (i := 1237) (by decide +kernel), List.mem_of_getElem? (i := 1415) (by decide +kernel), List.mem_of_getElem? (i := 1416) (by decide +kernel)⟩
theorem lw_p49 : lw_okq (⟨"PrefixCodeIndexModel", "joinIt", "(I)I"⟩, 21) := ⟨⟨by decide +kernel, by decide +kernel⟩, List.mem_of_getElem? (i := 1237) (by decide +kernel), List.mem_of_getElem? (i := 1423) (by decide +kernel), List.mem_of_getElem? (i := 1424) (by decide +kernel)⟩
theorem lw_p50 : lw_okq (⟨"PrefixCodeIndexModel", "searchIt", "(II)I"⟩, 21) := ⟨⟨by decide +kernel, by decide +kernel⟩, List.mem_of_getElem? (i := 1237) (by decide +kernel), List.mem_of_getElem? (i := 1431) (by decide +kernel), List.mem_of_getElem? (i := 1432) (by decide +kernel)⟩
theorem lw_p51 : lw_okq (⟨"PrefixCodeIndexModel", "passIt", "(I)I"⟩, 21) := ⟨⟨by decide +kernel, by decide +kernel⟩, List.mem_of_getElem? (i := 1237) (by decide +kernel), List.mem_of_getElem? (i := 1442) (by decide +kernel), List.mem_of_getElem? (i := 1443) (by decide +kernel)⟩
theorem lw_p52 : lw_okq (⟨"PrefixCodeIndexModel", "lifetime", "(I)I"⟩, 21) := ⟨⟨by decide +kernel, by decide +kernel⟩, List.mem_of_getElem? (i := 1237) (by decide +kernel), List.mem_of_getElem? (i := 1447) (by decide +kernel), List.mem_of_getElem? (i := 1448) (by decide +kernel)⟩
theorem lw_p53 : lw_okq (⟨"PrefixCodeIndexModel", "total", "(I)I"⟩, 21) := ⟨⟨by decide +kernel, by decide +kernel⟩, List.mem_of_getElem? (i := 1237) (by decide +kernel), List.mem_of_getElem? (i := 1455) (by decide +kernel), List.mem_of_getElem? (i := 1456) (by decide +kernel)⟩
theorem lw_p54 : lw_okq (⟨"PrefixCodeIndexModel", "ofEntry", "(II)I"⟩, 21) := ⟨⟨by decide +kernel, by decide +kernel⟩, List.mem_of_getElem? (i := 1237) (by decide +kernel), List.mem_of_getElem? (i := 1467) (by decide +kernel), List.mem_of_getElem? (i := 1468) (by decide +kernel)⟩
theorem lw_p55 : lw_okq (⟨"PrefixCodeIndexModel", "results", "(II)I"⟩, 21) := ⟨⟨by decide +kernel, by decide +kernel⟩, List.mem_of_getElem? (i := 1237) (by decide +kernel), List.mem_of_getElem? (i := 1515) (by decide +kernel), List.mem_of_getElem? (i := 1516) (by decide +kernel)⟩
theorem lw_p56 : lw_okq (⟨"PrefixCodeIndexModel", "result", "(III)I"⟩, 21) := ⟨⟨by decide +kernel, by decide +kernel⟩, List.mem_of_getElem? (i := 1237) (by decide +kernel), List.mem_of_getElem? (i := 1528) (by decide +kernel), List.mem_of_getElem? (i := 1529) (by decide +kernel)⟩
theorem lw_p57 : lw_okq (⟨"PrefixCodeIndexModel", "score", "(III)I"⟩, 21) := ⟨⟨by decide +kernel, by decide +kernel⟩, List.mem_of_getElem? (i := 1237) (by decide +kernel), List.mem_of_getElem? (i := 1532) (by decide +kernel), List.mem_of_getElem? (i := 1533) (by decide +kernel)⟩
theorem lw_p58 : lw_okq (⟨"PrefixCodeIndexModel", "holders", "(I)I"⟩, 21) := ⟨⟨by decide +kernel, by decide +kernel⟩, List.mem_of_getElem? (i := 1237) (by decide +kernel), List.mem_of_getElem? (i := 1544) (by decide +kernel), List.mem_of_getElem? (i := 1545) (by decide +kernel)⟩
theorem lw_p59 : lw_okq (⟨"PrefixCodeIndexModel", "daysLeft", "(I)I"⟩, 21) := ⟨⟨by decide +kernel, by decide +kernel⟩, List.mem_of_getElem? (i := 1237) (by decide +kernel), List.mem_of_getElem? (i := 1586) (by decide +kernel), List.mem_of_getElem? (i := 1587) (by decide +kernel)⟩
theorem lw_p60 : lw_okq (⟨"PrefixCodeIndexModel", "writes", "(II)V"⟩, 21) := ⟨⟨by decide +kernel, by decide +kernel⟩, List.mem_of_getElem? (i := 1237) (by decide +kernel), List.mem_of_getElem? (i := 1631) (by decide +kernel), List.mem_of_getElem? (i := 1632) (by decide +kernel)⟩
theorem lw_p61 : lw_okq (⟨"PrefixCodeIndexModel", "sign", "(I)V"⟩, 21) := ⟨⟨by decide +kernel, by decide +kernel⟩, List.mem_of_getElem? (i := 1237) (by decide +kernel), List.mem_of_getElem? (i := 1635) (by decide +kernel), List.mem_of_getElem? (i := 1636) (by decide +kernel)⟩
theorem lw_p62 : lw_okq (⟨"PrefixCodeIndexModel", "writesNumber", "(I)V"⟩, 21) := ⟨⟨by decide +kernel, by decide +kernel⟩, List.mem_of_getElem? (i := 1237) (by decide +kernel), List.mem_of_getElem? (i := 1639) (by decide +kernel), List.mem_of_getElem? (i := 1640) (by decide +kernel)⟩
theorem lw_p63 : lw_okq (⟨"PrefixCodeIndexModel", "readCommand", "()V"⟩, 21) := ⟨⟨by decide +kernel, by decide +kernel⟩, List.mem_of_getElem? (i := 1237) (by decide +kernel), List.mem_of_getElem? (i := 1662) (by decide +kernel), List.mem_of_getElem? (i := 1663) (by decide +kernel)⟩
def lw_privs_4 : List (MethodName × Nat) := [(⟨"PrefixCodeIndexModel", "segmentIt", "()I"⟩, 21), (⟨"PrefixCodeIndexModel", "joinIt", "(I)I"⟩, 21), (⟨"PrefixCodeIndexModel", "searchIt", "(II)I"⟩, 21), (⟨"PrefixCodeIndexModel", "passIt", "(I)I"⟩, 21), (⟨"PrefixCodeIndexModel", "lifetime", "(I)I"⟩, 21), (⟨"PrefixCodeIndexModel", "total", "(I)I"⟩, 21), (⟨"PrefixCodeIndexModel", "ofEntry", "(II)I"⟩, 21), (⟨"PrefixCodeIndexModel", "results", "(II)I"⟩, 21), (⟨"PrefixCodeIndexModel", "result", "(III)I"⟩, 21), (⟨"PrefixCodeIndexModel", "score", "(III)I"⟩, 21), (⟨"PrefixCodeIndexModel", "holders", "(I)I"⟩, 21), (⟨"PrefixCodeIndexModel", "daysLeft", "(I)I"⟩, 21), (⟨"PrefixCodeIndexModel", "writes", "(II)V"⟩, 21), (⟨"PrefixCodeIndexModel", "sign", "(I)V"⟩, 21), (⟨"PrefixCodeIndexModel", "writesNumber", "(I)V"⟩, 21), (⟨"PrefixCodeIndexModel", "readCommand", "()V"⟩, 21)]
theorem lw_r4 : ∀ q ∈ lw_privs_4, lw_okq q := List.forall_mem_cons.mpr ⟨lw_p48, List.forall_mem_cons.mpr ⟨lw_p49, List.forall_mem_cons.mpr ⟨lw_p50, List.forall_mem_cons.mpr ⟨lw_p51, List.forall_mem_cons.mpr ⟨lw_p52, List.forall_mem_cons.mpr ⟨lw_p53, List.forall_mem_cons.mpr ⟨lw_p54, List.forall_mem_cons.mpr ⟨lw_p55, List.forall_mem_cons.mpr ⟨lw_p56, List.forall_mem_cons.mpr ⟨lw_p57, List.forall_mem_cons.mpr ⟨lw_p58, List.forall_mem_cons.mpr ⟨lw_p59, List.forall_mem_cons.mpr ⟨lw_p60, List.forall_mem_cons.mpr ⟨lw_p61, List.forall_mem_cons.mpr ⟨lw_p62, List.forall_mem_cons.mpr ⟨lw_p63, fun _ h => absurd h List.not_mem_nil⟩⟩⟩⟩⟩⟩⟩⟩⟩⟩⟩⟩⟩⟩⟩⟩
theorem lw_p64 : lw_okq (⟨"PrefixCodeIndexModel", "likeness", "(I)I"⟩, 21) := ⟨⟨by decide +kernel, by decide +kernel⟩, List.mem_of_getElem? (i := 1237) (by decide +kernel), List.mem_of_getElem? (i := 1666) (by decide +kernel), List.mem_of_getElem? (i := 1667) (by decide +kernel)⟩
theorem lw_p65 : lw_okq (⟨"PrefixCodeIndexModel", "readArguments", "(II)V"⟩, 21) := ⟨⟨by decide +kernel, by decide +kernel⟩, List.mem_of_getElem? (i := 1237) (by decide +kernel), List.mem_of_getElem? (i := 1670) (by decide +kernel), List.mem_of_getElem? (i := 1671) (by decide +kernel)⟩
theorem lw_p66 : lw_okq (⟨"PrefixCodeIndexModel", "digit", "()I"⟩, 21) := ⟨⟨by decide +kernel, by decide +kernel⟩, List.mem_of_getElem? (i := 1237) (by decide +kernel), List.mem_of_getElem? (i := 1674) (by decide +kernel), List.mem_of_getElem? (i := 1675) (by decide +kernel)⟩
theorem lw_p67 : lw_okq (⟨"PrefixCodeIndexModel", "here", "()I"⟩, 21) := ⟨⟨by decide +kernel, by decide +kernel⟩, List.mem_of_getElem? (i := 1237) (by decide +kernel), List.mem_of_getElem? (i := 1678) (by decide +kernel), List.mem_of_getElem? (i := 1679) (by decide +kernel)⟩
theorem lw_p68 : lw_okq (⟨"PrefixCodeIndexModel", "number", "()I"⟩, 21) := ⟨⟨by decide +kernel, by decide +kernel⟩, List.mem_of_getElem? (i := 1237) (by decide +kernel), List.mem_of_getElem? (i := 1684) (by decide +kernel), List.mem_of_getElem? (i := 1685) (by decide +kernel)⟩
theorem lw_p69 : lw_okq (⟨"PrefixCodeIndexModel", "numberBehind", "()I"⟩, 21) := ⟨⟨by decide +kernel, by decide +kernel⟩, List.mem_of_getElem? (i := 1237) (by decide +kernel), List.mem_of_getElem? (i := 1688) (by decide +kernel), List.mem_of_getElem? (i := 1689) (by decide +kernel)⟩
theorem lw_p70 : lw_okq (⟨"PrefixCodeIndexModel", "expects", "(I)V"⟩, 21) := ⟨⟨by decide +kernel, by decide +kernel⟩, List.mem_of_getElem? (i := 1237) (by decide +kernel), List.mem_of_getElem? (i := 1692) (by decide +kernel), List.mem_of_getElem? (i := 1693) (by decide +kernel)⟩
theorem lw_p71 : lw_okq (⟨"PrefixCodeIndexModel", "does", "(I)V"⟩, 21) := ⟨⟨by decide +kernel, by decide +kernel⟩, List.mem_of_getElem? (i := 1237) (by decide +kernel), List.mem_of_getElem? (i := 1696) (by decide +kernel), List.mem_of_getElem? (i := 1697) (by decide +kernel)⟩
def lw_privs_5 : List (MethodName × Nat) := [(⟨"PrefixCodeIndexModel", "likeness", "(I)I"⟩, 21), (⟨"PrefixCodeIndexModel", "readArguments", "(II)V"⟩, 21), (⟨"PrefixCodeIndexModel", "digit", "()I"⟩, 21), (⟨"PrefixCodeIndexModel", "here", "()I"⟩, 21), (⟨"PrefixCodeIndexModel", "number", "()I"⟩, 21), (⟨"PrefixCodeIndexModel", "numberBehind", "()I"⟩, 21), (⟨"PrefixCodeIndexModel", "expects", "(I)V"⟩, 21), (⟨"PrefixCodeIndexModel", "does", "(I)V"⟩, 21)]
theorem lw_r5 : ∀ q ∈ lw_privs_5, lw_okq q := List.forall_mem_cons.mpr ⟨lw_p64, List.forall_mem_cons.mpr ⟨lw_p65, List.forall_mem_cons.mpr ⟨lw_p66, List.forall_mem_cons.mpr ⟨lw_p67, List.forall_mem_cons.mpr ⟨lw_p68, List.forall_mem_cons.mpr ⟨lw_p69, List.forall_mem_cons.mpr ⟨lw_p70, List.forall_mem_cons.mpr ⟨lw_p71, fun _ h => absurd h List.not_mem_nil⟩⟩⟩⟩⟩⟩⟩⟩
def lw_privs : List (MethodName × Nat) := lw_privs_1 ++ (lw_privs_2 ++ (lw_privs_3 ++ (lw_privs_4 ++ (lw_privs_5))))
def lw_tbl : List Cond := k2_sels lw_privs ++ tables_1
theorem lw_privs_ok : ∀ q ∈ lw_privs, lw_okq q := by
  show ∀ q ∈ lw_privs_1 ++ (lw_privs_2 ++ (lw_privs_3 ++ (lw_privs_4 ++ (lw_privs_5)))), lw_okq q
  exact List.forall_mem_append.mpr ⟨lw_r1, List.forall_mem_append.mpr ⟨lw_r2, List.forall_mem_append.mpr ⟨lw_r3, List.forall_mem_append.mpr ⟨lw_r4, lw_r5⟩⟩⟩⟩
/-- the streams that the claim lets the run draw from -/
abbrev lw_cs : List Choice := [Jvm.Choice.named "NaN.bits"]
theorem lw_bits : nanBits ∈ lw_cs := by first | decide | exact List.mem_cons_self | simp [lw_cs, nanBits]
end
section
theorem zt0 {i : Nat} {w : Cond} (h : (k2_sels lw_privs)[i]? = some w) : w ∈ lw_tbl := List.mem_append_left _ (List.mem_of_getElem? h)
theorem zt1 {i : Nat} {w : Cond} (h : tables_1_1[i]? = some w) : w ∈ lw_tbl := List.mem_append_right _ (List.mem_append_left _ (List.mem_of_getElem? h))
theorem zt2 {i : Nat} {w : Cond} (h : tables_1_2[i]? = some w) : w ∈ lw_tbl := List.mem_append_right _ (List.mem_append_right _ (List.mem_append_left _ (List.mem_of_getElem? h)))
theorem zt3 {i : Nat} {w : Cond} (h : tables_1_3[i]? = some w) : w ∈ lw_tbl := List.mem_append_right _ (List.mem_append_right _ (List.mem_append_right _ (List.mem_append_left _ (List.mem_of_getElem? h))))
theorem zt4 {i : Nat} {w : Cond} (h : tables_1_4[i]? = some w) : w ∈ lw_tbl := List.mem_append_right _ (List.mem_append_right _ (List.mem_append_right _ (List.mem_append_right _ (List.mem_append_left _ (List.mem_of_getElem? h)))))
theorem zt5 {i : Nat} {w : Cond} (h : tables_1_5[i]? = some w) : w ∈ lw_tbl := List.mem_append_right _ (List.mem_append_right _ (List.mem_append_right _ (List.mem_append_right _ (List.mem_append_right _ (List.mem_append_left _ (List.mem_of_getElem? h))))))
theorem zt6 {i : Nat} {w : Cond} (h : tables_1_6[i]? = some w) : w ∈ lw_tbl := List.mem_append_right _ (List.mem_append_right _ (List.mem_append_right _ (List.mem_append_right _ (List.mem_append_right _ (List.mem_append_right _ (List.mem_append_left _ (List.mem_of_getElem? h)))))))
theorem zt7 {i : Nat} {w : Cond} (h : tables_1_7[i]? = some w) : w ∈ lw_tbl := List.mem_append_right _ (List.mem_append_right _ (List.mem_append_right _ (List.mem_append_right _ (List.mem_append_right _ (List.mem_append_right _ (List.mem_append_right _ (List.mem_append_left _ (List.mem_of_getElem? h))))))))
theorem zt8 {i : Nat} {w : Cond} (h : tables_1_8[i]? = some w) : w ∈ lw_tbl := List.mem_append_right _ (List.mem_append_right _ (List.mem_append_right _ (List.mem_append_right _ (List.mem_append_right _ (List.mem_append_right _ (List.mem_append_right _ (List.mem_append_right _ (List.mem_of_getElem? h))))))))
/-! names of the classes, their fields, the methods; where the tables have their words (by program, out of what TURN printed) -/
def zRC : String := "PrefixCodeIndex$Contents"
def zTC : u_T := fun k => match k with
  | 0 => ("PrefixCodeIndex$Contents", "entries", "[LPrefixCodeIndex$Entry;", true)
  | 1 => ("PrefixCodeIndex$Contents", "entryCount", "I", false)
  | 2 => ("PrefixCodeIndex$Contents", "nextId", "I", false)
  | 3 => ("PrefixCodeIndex$Contents", "segments", "I", false)
  | 4 => ("PrefixCodeIndex$Contents", "added", "I", false)
  | 5 => ("PrefixCodeIndex$Contents", "removed", "I", false)
  | 6 => ("PrefixCodeIndex$Contents", "merged", "I", false)
  | _ => ("PrefixCodeIndex$Contents", "faded", "I", false)
def ztC : Nat → FieldType := fun k => match k with
  | 0 => (.array (.object "PrefixCodeIndex$Entry"))
  | 1 => .int
  | 2 => .int
  | 3 => .int
  | 4 => .int
  | 5 => .int
  | 6 => .int
  | _ => .int
def zRE : String := "PrefixCodeIndex$Entry"
def zTE : u_T := fun k => match k with
  | 0 => ("PrefixCodeIndex$Entry", "id", "I", false)
  | 1 => ("PrefixCodeIndex$Entry", "weight", "I", false)
  | 2 => ("PrefixCodeIndex$Entry", "age", "I", false)
  | 3 => ("PrefixCodeIndex$Entry", "hits", "I", false)
  | 4 => ("PrefixCodeIndex$Entry", "segment", "I", false)
  | 5 => ("PrefixCodeIndex$Entry", "size", "I", false)
  | _ => ("PrefixCodeIndex$Entry", "codes", "[I", true)
def ztE : Nat → FieldType := fun k => match k with
  | 0 => .int
  | 1 => .int
  | 2 => .int
  | 3 => .int
  | 4 => .int
  | 5 => .int
  | _ => (.array .int)
def zRH : String := "PrefixCodeIndex$History"
def zTH : u_T := fun k => match k with
  | 0 => ("PrefixCodeIndex$History", "rows", "[LPrefixCodeIndex$Contents;", true)
  | 1 => ("PrefixCodeIndex$History", "marked", "I", false)
  | _ => ("PrefixCodeIndex$History", "size", "I", false)
def ztH : Nat → FieldType := fun k => match k with
  | 0 => (.array (.object "PrefixCodeIndex$Contents"))
  | 1 => .int
  | _ => .int
def zRL : String := "PrefixCodeIndex$Line"
def zTL : u_T := fun k => match k with
  | 0 => ("PrefixCodeIndex$Line", "chars", "[C", true)
  | 1 => ("PrefixCodeIndex$Line", "digits", "[C", true)
  | _ => ("PrefixCodeIndex$Line", "length", "I", false)
def ztL : Nat → FieldType := fun k => match k with
  | 0 => (.array .char)
  | 1 => (.array .char)
  | _ => .int
def zRP : String := "PrefixCodeIndex$Program"
def zTP : u_T := fun k => match k with
  | 0 => ("PrefixCodeIndex$Program", "text", "[C", true)
  | 1 => ("PrefixCodeIndex$Program", "length", "I", false)
  | 2 => ("PrefixCodeIndex$Program", "position", "I", false)
  | 3 => ("PrefixCodeIndex$Program", "number", "I", false)
  | 4 => ("PrefixCodeIndex$Program", "numberDigits", "I", false)
  | 5 => ("PrefixCodeIndex$Program", "kinds", "[I", true)
  | 6 => ("PrefixCodeIndex$Program", "firsts", "[I", true)
  | 7 => ("PrefixCodeIndex$Program", "seconds", "[I", true)
  | _ => ("PrefixCodeIndex$Program", "count", "I", false)
def ztP : Nat → FieldType := fun k => match k with
  | 0 => (.array .char)
  | 1 => .int
  | 2 => .int
  | 3 => .int
  | 4 => .int
  | 5 => (.array .int)
  | 6 => (.array .int)
  | 7 => (.array .int)
  | _ => .int
def zRR : String := "PrefixCodeIndex$Ranking"
def zTR : u_T := fun k => match k with
  | 0 => ("PrefixCodeIndex$Ranking", "ids", "[I", true)
  | 1 => ("PrefixCodeIndex$Ranking", "scores", "[I", true)
  | _ => ("PrefixCodeIndex$Ranking", "size", "I", false)
def ztR : Nat → FieldType := fun k => match k with
  | 0 => (.array .int)
  | 1 => (.array .int)
  | _ => .int
def zRT : String := "PrefixCodeIndex$Trie"
def zTT : u_T := fun k => match k with
  | 0 => ("PrefixCodeIndex$Trie", "entryCounts", "[I", true)
  | _ => ("PrefixCodeIndex$Trie", "codeCounts", "[I", true)
def ztT : Nat → FieldType := fun k => match k with
  | 0 => (.array .int)
  | _ => (.array .int)
def zRX : String := "PrefixCodeIndex"
def zTX : u_T := fun k => match k with
  | 0 => ("PrefixCodeIndex", "contents", "LPrefixCodeIndex$Contents;", true)
  | 1 => ("PrefixCodeIndex", "saved", "LPrefixCodeIndex$Contents;", true)
  | 2 => ("PrefixCodeIndex", "history", "LPrefixCodeIndex$History;", true)
  | 3 => ("PrefixCodeIndex", "trie", "LPrefixCodeIndex$Trie;", true)
  | 4 => ("PrefixCodeIndex", "ranking", "LPrefixCodeIndex$Ranking;", true)
  | 5 => ("PrefixCodeIndex", "program", "LPrefixCodeIndex$Program;", true)
  | 6 => ("PrefixCodeIndex", "line", "LPrefixCodeIndex$Line;", true)
  | 7 => ("PrefixCodeIndex", "agingCopy", "LPrefixCodeIndex$Entry;", true)
  | 8 => ("PrefixCodeIndex", "trieIsStale", "Z", false)
  | 9 => ("PrefixCodeIndex", "copyIsSaved", "Z", false)
  | 10 => ("PrefixCodeIndex", "storedErrorPosition", "I", false)
  | _ => ("PrefixCodeIndex", "storedFailedCommand", "I", false)
def ztX : Nat → FieldType := fun k => match k with
  | 0 => (.object "PrefixCodeIndex$Contents")
  | 1 => (.object "PrefixCodeIndex$Contents")
  | 2 => (.object "PrefixCodeIndex$History")
  | 3 => (.object "PrefixCodeIndex$Trie")
  | 4 => (.object "PrefixCodeIndex$Ranking")
  | 5 => (.object "PrefixCodeIndex$Program")
  | 6 => (.object "PrefixCodeIndex$Line")
  | 7 => (.object "PrefixCodeIndex$Entry")
  | 8 => .boolean
  | 9 => .boolean
  | 10 => .int
  | _ => .int
def zRM : String := "PrefixCodeIndexModel"
def zTM : u_T := fun k => match k with
  | 0 => ("PrefixCodeIndexModel", "m", "[I", true)
  | 1 => ("PrefixCodeIndexModel", "aside", "[I", true)
  | 2 => ("PrefixCodeIndexModel", "saved", "[I", true)
  | 3 => ("PrefixCodeIndexModel", "isSaved", "Z", false)
  | 4 => ("PrefixCodeIndexModel", "past", "[I", true)
  | 5 => ("PrefixCodeIndexModel", "changes", "I", false)
  | 6 => ("PrefixCodeIndexModel", "errorAt", "I", false)
  | 7 => ("PrefixCodeIndexModel", "failed", "I", false)
  | 8 => ("PrefixCodeIndexModel", "thrown", "I", false)
  | 9 => ("PrefixCodeIndexModel", "input", "[I", true)
  | 10 => ("PrefixCodeIndexModel", "inputMany", "I", false)
  | 11 => ("PrefixCodeIndexModel", "line", "[I", true)
  | 12 => ("PrefixCodeIndexModel", "lineMany", "I", false)
  | 13 => ("PrefixCodeIndexModel", "letters", "[C", true)
  | 14 => ("PrefixCodeIndexModel", "begins0", "[I", true)
  | 15 => ("PrefixCodeIndexModel", "commands", "[I", true)
  | 16 => ("PrefixCodeIndexModel", "commandMany", "I", false)
  | 17 => ("PrefixCodeIndexModel", "place0", "I", false)
  | 18 => ("PrefixCodeIndexModel", "size0", "I", false)
  | 19 => ("PrefixCodeIndexModel", "isWrong", "Z", false)
  | _ => ("PrefixCodeIndexModel", "digitsRead", "I", false)
def ztM : Nat → FieldType := fun k => match k with
  | 0 => (.array .int)
  | 1 => (.array .int)
  | 2 => (.array .int)
  | 3 => .boolean
  | 4 => (.array .int)
  | 5 => .int
  | 6 => .int
  | 7 => .int
  | 8 => .int
  | 9 => (.array .int)
  | 10 => .int
  | 11 => (.array .int)
  | 12 => .int
  | 13 => (.array .char)
  | 14 => (.array .int)
  | 15 => (.array .int)
  | 16 => .int
  | 17 => .int
  | 18 => .int
  | 19 => .boolean
  | _ => .int
def zCl : List vw_C := [(zRC, zTC, 8), (zRE, zTE, 7), (zRH, zTH, 3), (zRL, zTL, 3), (zRP, zTP, 9), (zRR, zTR, 3), (zRT, zTT, 2), (zRX, zTX, 12), (zRM, zTM, 21)]
def zNf : Nat → Nat := fun k => match k with
  | 0 => 8
  | 1 => 7
  | 2 => 3
  | 3 => 3
  | 4 => 9
  | 5 => 3
  | 6 => 2
  | 7 => 12
  | 8 => 21
  | _ => 0
/-- a field by its index in a class's pool: class, slot, final or not, its type -/
def zF (own : String) (idx ci k : Nat) (fin : Bool) (ty : FieldType) : Prop := ∃ (C : String) (T : u_T) (N : Nat), zCl[ci]? = some (C, T, N) ∧ k < N ∧ Cond.fieldLink own idx C (T k).2.1 (T k).2.2.1 ∈ lw_tbl ∧ (T k).1 = C ∧ (T k).2.2.2 = fin ∧ parseFieldDescriptor (T k).2.2.1 = some ty
def zClFine (q : vw_C) (ty : Nat → FieldType) : Prop := (∀ w ∈ u_ws q.1 q.2.1 q.2.2, w ∈ lw_tbl) ∧ (∀ w ∈ u_ws q.1 q.2.1 q.2.2, goodWord w = true) ∧ (∀ k, k < q.2.2 → parseFieldDescriptor (q.2.1 k).2.2.1 = some (ty k)) ∧ (∀ a, a < q.2.2 → ∀ b, b < q.2.2 → a ≠ b → (q.2.1 a).2.1 ≠ (q.2.1 b).2.1)
set_option maxRecDepth 20000 in
theorem zcC_ok : zClFine (zRC, zTC, 8) ztC := ⟨by decide +kernel, by decide +kernel, by decide +kernel, by decide +kernel⟩
set_option maxRecDepth 20000 in
theorem zcE_ok : zClFine (zRE, zTE, 7) ztE := ⟨by decide +kernel, by decide +kernel, by decide +kernel, by decide +kernel⟩
set_option maxRecDepth 20000 in
theorem zcH_ok : zClFine (zRH, zTH, 3) ztH := ⟨by decide +kernel, by decide +kernel, by decide +kernel, by decide +kernel⟩
set_option maxRecDepth 20000 in
theorem zcL_ok : zClFine (zRL, zTL, 3) ztL := ⟨by decide +kernel, by decide +kernel, by decide +kernel, by decide +kernel⟩
set_option maxRecDepth 20000 in
theorem zcP_ok : zClFine (zRP, zTP, 9) ztP := ⟨by decide +kernel, by decide +kernel, by decide +kernel, by decide +kernel⟩
set_option maxRecDepth 20000 in
theorem zcR_ok : zClFine (zRR, zTR, 3) ztR := ⟨by decide +kernel, by decide +kernel, by decide +kernel, by decide +kernel⟩
set_option maxRecDepth 20000 in
theorem zcT_ok : zClFine (zRT, zTT, 2) ztT := ⟨by decide +kernel, by decide +kernel, by decide +kernel, by decide +kernel⟩
set_option maxRecDepth 20000 in
theorem zcX_ok : zClFine (zRX, zTX, 12) ztX := ⟨by decide +kernel, by decide +kernel, by decide +kernel, by decide +kernel⟩
set_option maxRecDepth 20000 in
theorem zcM_ok : zClFine (zRM, zTM, 21) ztM := ⟨by decide +kernel, by decide +kernel, by decide +kernel, by decide +kernel⟩
theorem zClOK : ∀ (ci : Nat) (q : vw_C), zCl[ci]? = some q → ∃ ty, zClFine q ty := by
  intro ci q h
  match ci, h with
  | 0, h => cases h; exact ⟨_, zcC_ok⟩
  | 1, h => cases h; exact ⟨_, zcE_ok⟩
  | 2, h => cases h; exact ⟨_, zcH_ok⟩
  | 3, h => cases h; exact ⟨_, zcL_ok⟩
  | 4, h => cases h; exact ⟨_, zcP_ok⟩
  | 5, h => cases h; exact ⟨_, zcR_ok⟩
  | 6, h => cases h; exact ⟨_, zcT_ok⟩
  | 7, h => cases h; exact ⟨_, zcX_ok⟩
  | 8, h => cases h; exact ⟨_, zcM_ok⟩
  | k + 9, h => simp [zCl] at h
/-! methods: name, bytes, locals, answer, exception table -/
abbrev zM : Type := MethodName × ByteArray × Nat × Option FieldType × List (Nat × Nat × Nat × Nat)
abbrev zy (M : zM) : MethodName := M.1
abbrev zby (M : zM) : ByteArray := M.2.1
abbrev zml (M : zM) : Nat := M.2.2.1
abbrev zrt (M : zM) : Option FieldType := M.2.2.2.1
abbrev zxt (M : zM) : List (Nat × Nat × Nat × Nat) := M.2.2.2.2
def zcw (M : zM) : Cond := match zxt M with
  | [] => .code (zy M) (zby M) (zml M) (zrt M)
  | hh => .codeWith (zy M) (zby M) (zml M) (zrt M) hh
/-- what a call of it needs of the tables; np: how many parameters -/
def zMd (M : zM) (np : Nat) : Prop := zcw M ∈ lw_tbl ∧ Cond.initialized (zy M).cls ∈ lw_tbl ∧ ((zy M).cls ≠ "java/lang/invoke/MethodHandle" ∧ (zy M).cls ≠ "java/lang/invoke/VarHandle" ∧ (parseMethodDescriptor (zy M).desc).map (fun d => d.parameters.length) = some np) ∧ plainName (zy M).cls = true ∧ zml M ≤ 21
def zMi (M : zM) : Prop := Cond.instanceMethod (zy M) ∈ lw_tbl
def zMv (M : zM) : Prop := Cond.selects (zy M).cls (zy M) (zy M) ∈ lw_tbl
def zMs (M : zM) : Prop := Cond.static (zy M) ∈ lw_tbl
def mA_fill : zM := (⟨"java/util/Arrays", "fill", "([II)V"⟩, prog_29_method_103_code, 4, none, [])
theorem mdA_fill : zMd mA_fill 2 := ⟨(zt2 (i := 156) rfl), (zt1 (i := 21) rfl), ⟨by decide +kernel, by decide +kernel, by decide +kernel⟩, by decide +kernel, by decide +kernel⟩
theorem msA_fill : zMs mA_fill := (zt2 (i := 155) rfl)
def mC_copyFrom : zM := (⟨"PrefixCodeIndex$Contents", "copyFrom", "(LPrefixCodeIndex$Contents;)V"⟩, prog_2_method_2_code, 3, none, [])
theorem mdC_copyFrom : zMd mC_copyFrom 1 := ⟨(zt3 (i := 50) rfl), (zt1 (i := 2) rfl), ⟨by decide +kernel, by decide +kernel, by decide +kernel⟩, by decide +kernel, by decide +kernel⟩
theorem miC_copyFrom : zMi mC_copyFrom := (zt3 (i := 48) rfl)
theorem mvC_copyFrom : zMv mC_copyFrom := (zt3 (i := 49) rfl)
def mC_discard : zM := (⟨"PrefixCodeIndex$Contents", "discard", "(LPrefixCodeIndex$Entry;)V"⟩, prog_2_method_16_code, 4, none, [])
theorem mdC_discard : zMd mC_discard 1 := ⟨(zt3 (i := 111) rfl), (zt1 (i := 2) rfl), ⟨by decide +kernel, by decide +kernel, by decide +kernel⟩, by decide +kernel, by decide +kernel⟩
theorem miC_discard : zMi mC_discard := (zt3 (i := 110) rfl)
theorem mvC_discard : zMv mC_discard := (zt0 (i := 13) rfl)
def mC_find : zM := (⟨"PrefixCodeIndex$Contents", "find", "(I)LPrefixCodeIndex$Entry;"⟩, prog_2_method_3_code, 3, (some (.object "PrefixCodeIndex$Entry")), [])
theorem mdC_find : zMd mC_find 1 := ⟨(zt2 (i := 235) rfl), (zt1 (i := 2) rfl), ⟨by decide +kernel, by decide +kernel, by decide +kernel⟩, by decide +kernel, by decide +kernel⟩
theorem miC_find : zMi mC_find := (zt2 (i := 233) rfl)
theorem mvC_find : zMv mC_find := (zt2 (i := 234) rfl)
def mC_freshen : zM := (⟨"PrefixCodeIndex$Contents", "freshen", "(I)I"⟩, prog_2_method_9_code, 4, (some .int), [])
theorem mdC_freshen : zMd mC_freshen 1 := ⟨(zt3 (i := 115) rfl), (zt1 (i := 2) rfl), ⟨by decide +kernel, by decide +kernel, by decide +kernel⟩, by decide +kernel, by decide +kernel⟩
theorem miC_freshen : zMi mC_freshen := (zt3 (i := 114) rfl)
theorem mvC_freshen : zMv mC_freshen := (zt0 (i := 14) rfl)
def mC_hitAll : zM := (⟨"PrefixCodeIndex$Contents", "hitAll", "(II)I"⟩, prog_2_method_13_code, 6, (some .int), [])
theorem mdC_hitAll : zMd mC_hitAll 2 := ⟨(zt3 (i := 145) rfl), (zt1 (i := 2) rfl), ⟨by decide +kernel, by decide +kernel, by decide +kernel⟩, by decide +kernel, by decide +kernel⟩
theorem miC_hitAll : zMi mC_hitAll := (zt3 (i := 144) rfl)
theorem mvC_hitAll : zMv mC_hitAll := (zt0 (i := 18) rfl)
def mC_init : zM := (⟨"PrefixCodeIndex$Contents", "<init>", "()V"⟩, prog_2_method_1_code, 2, none, [])
theorem mdC_init : zMd mC_init 0 := ⟨(zt1 (i := 38) rfl), (zt1 (i := 2) rfl), ⟨by decide +kernel, by decide +kernel, by decide +kernel⟩, by decide +kernel, by decide +kernel⟩
theorem miC_init : zMi mC_init := (zt1 (i := 37) rfl)
def mC_joinWithNext : zM := (⟨"PrefixCodeIndex$Contents", "joinWithNext", "(I)I"⟩, prog_2_method_12_code, 3, (some .int), [])
theorem mdC_joinWithNext : zMd mC_joinWithNext 1 := ⟨(zt3 (i := 141) rfl), (zt1 (i := 2) rfl), ⟨by decide +kernel, by decide +kernel, by decide +kernel⟩, by decide +kernel, by decide +kernel⟩
theorem miC_joinWithNext : zMi mC_joinWithNext := (zt3 (i := 140) rfl)
theorem mvC_joinWithNext : zMv mC_joinWithNext := (zt0 (i := 17) rfl)
def mC_mergeInto : zM := (⟨"PrefixCodeIndex$Contents", "mergeInto", "(II)I"⟩, prog_2_method_10_code, 5, (some .int), [])
theorem mdC_mergeInto : zMd mC_mergeInto 2 := ⟨(zt3 (i := 119) rfl), (zt1 (i := 2) rfl), ⟨by decide +kernel, by decide +kernel, by decide +kernel⟩, by decide +kernel, by decide +kernel⟩
theorem miC_mergeInto : zMi mC_mergeInto := (zt3 (i := 118) rfl)
theorem mvC_mergeInto : zMv mC_mergeInto := (zt0 (i := 15) rfl)
def mC_openSegment : zM := (⟨"PrefixCodeIndex$Contents", "openSegment", "()I"⟩, prog_2_method_11_code, 1, (some .int), [])
theorem mdC_openSegment : zMd mC_openSegment 0 := ⟨(zt3 (i := 137) rfl), (zt1 (i := 2) rfl), ⟨by decide +kernel, by decide +kernel, by decide +kernel⟩, by decide +kernel, by decide +kernel⟩
theorem miC_openSegment : zMi mC_openSegment := (zt3 (i := 136) rfl)
theorem mvC_openSegment : zMv mC_openSegment := (zt0 (i := 16) rfl)
def mC_passDay : zM := (⟨"PrefixCodeIndex$Contents", "passDay", "()I"⟩, prog_2_method_15_code, 4, (some .int), [])
theorem mdC_passDay : zMd mC_passDay 0 := ⟨(zt3 (i := 155) rfl), (zt1 (i := 2) rfl), ⟨by decide +kernel, by decide +kernel, by decide +kernel⟩, by decide +kernel, by decide +kernel⟩
theorem miC_passDay : zMi mC_passDay := (zt3 (i := 154) rfl)
theorem mvC_passDay : zMv mC_passDay := (zt0 (i := 20) rfl)
def mC_passDays : zM := (⟨"PrefixCodeIndex$Contents", "passDays", "(I)I"⟩, prog_2_method_14_code, 4, (some .int), [])
theorem mdC_passDays : zMd mC_passDays 1 := ⟨(zt3 (i := 151) rfl), (zt1 (i := 2) rfl), ⟨by decide +kernel, by decide +kernel, by decide +kernel⟩, by decide +kernel, by decide +kernel⟩
theorem miC_passDays : zMi mC_passDays := (zt3 (i := 150) rfl)
theorem mvC_passDays : zMv mC_passDays := (zt0 (i := 19) rfl)
def mC_perform : zM := (⟨"PrefixCodeIndex$Contents", "perform", "(III)I"⟩, prog_2_method_4_code, 4, (some .int), [])
theorem mdC_perform : zMd mC_perform 3 := ⟨(zt3 (i := 73) rfl), (zt1 (i := 2) rfl), ⟨by decide +kernel, by decide +kernel, by decide +kernel⟩, by decide +kernel, by decide +kernel⟩
theorem miC_perform : zMi mC_perform := (zt3 (i := 71) rfl)
theorem mvC_perform : zMv mC_perform := (zt3 (i := 72) rfl)
def mC_putCode : zM := (⟨"PrefixCodeIndex$Contents", "putCode", "(II)I"⟩, prog_2_method_6_code, 4, (some .int), [])
theorem mdC_putCode : zMd mC_putCode 2 := ⟨(zt3 (i := 85) rfl), (zt1 (i := 2) rfl), ⟨by decide +kernel, by decide +kernel, by decide +kernel⟩, by decide +kernel, by decide +kernel⟩
theorem miC_putCode : zMi mC_putCode := (zt3 (i := 84) rfl)
theorem mvC_putCode : zMv mC_putCode := (zt0 (i := 10) rfl)
def mC_putEntry : zM := (⟨"PrefixCodeIndex$Contents", "putEntry", "(I)I"⟩, prog_2_method_5_code, 3, (some .int), [])
theorem mdC_putEntry : zMd mC_putEntry 1 := ⟨(zt3 (i := 77) rfl), (zt1 (i := 2) rfl), ⟨by decide +kernel, by decide +kernel, by decide +kernel⟩, by decide +kernel, by decide +kernel⟩
theorem miC_putEntry : zMi mC_putEntry := (zt3 (i := 76) rfl)
theorem mvC_putEntry : zMv mC_putEntry := (zt0 (i := 9) rfl)
def mC_takeCode : zM := (⟨"PrefixCodeIndex$Contents", "takeCode", "(II)I"⟩, prog_2_method_7_code, 4, (some .int), [])
theorem mdC_takeCode : zMd mC_takeCode 2 := ⟨(zt3 (i := 99) rfl), (zt1 (i := 2) rfl), ⟨by decide +kernel, by decide +kernel, by decide +kernel⟩, by decide +kernel, by decide +kernel⟩
theorem miC_takeCode : zMi mC_takeCode := (zt3 (i := 98) rfl)
theorem mvC_takeCode : zMv mC_takeCode := (zt0 (i := 11) rfl)
def mC_takeEntry : zM := (⟨"PrefixCodeIndex$Contents", "takeEntry", "(I)I"⟩, prog_2_method_8_code, 3, (some .int), [])
theorem mdC_takeEntry : zMd mC_takeEntry 1 := ⟨(zt3 (i := 107) rfl), (zt1 (i := 2) rfl), ⟨by decide +kernel, by decide +kernel, by decide +kernel⟩, by decide +kernel, by decide +kernel⟩
theorem miC_takeEntry : zMi mC_takeEntry := (zt3 (i := 106) rfl)
theorem mvC_takeEntry : zMv mC_takeEntry := (zt0 (i := 12) rfl)
def mE_absorb : zM := (⟨"PrefixCodeIndex$Entry", "absorb", "(LPrefixCodeIndex$Entry;)V"⟩, prog_3_method_14_code, 3, none, [])
theorem mdE_absorb : zMd mE_absorb 1 := ⟨(zt3 (i := 128) rfl), (zt1 (i := 3) rfl), ⟨by decide +kernel, by decide +kernel, by decide +kernel⟩, by decide +kernel, by decide +kernel⟩
theorem miE_absorb : zMi mE_absorb := (zt3 (i := 126) rfl)
theorem mvE_absorb : zMv mE_absorb := (zt3 (i := 127) rfl)
def mE_begin : zM := (⟨"PrefixCodeIndex$Entry", "begin", "(III)V"⟩, prog_3_method_2_code, 4, none, [])
theorem mdE_begin : zMd mE_begin 3 := ⟨(zt3 (i := 81) rfl), (zt1 (i := 3) rfl), ⟨by decide +kernel, by decide +kernel, by decide +kernel⟩, by decide +kernel, by decide +kernel⟩
theorem miE_begin : zMi mE_begin := (zt3 (i := 79) rfl)
theorem mvE_begin : zMv mE_begin := (zt3 (i := 80) rfl)
def mE_copyFrom : zM := (⟨"PrefixCodeIndex$Entry", "copyFrom", "(LPrefixCodeIndex$Entry;)V"⟩, prog_3_method_3_code, 2, none, [])
theorem mdE_copyFrom : zMd mE_copyFrom 1 := ⟨(zt3 (i := 27) rfl), (zt1 (i := 3) rfl), ⟨by decide +kernel, by decide +kernel, by decide +kernel⟩, by decide +kernel, by decide +kernel⟩
theorem miE_copyFrom : zMi mE_copyFrom := (zt3 (i := 25) rfl)
theorem mvE_copyFrom : zMv mE_copyFrom := (zt3 (i := 26) rfl)
def mE_countShared : zM := (⟨"PrefixCodeIndex$Entry", "countShared", "(LPrefixCodeIndex$Entry;)I"⟩, prog_3_method_11_code, 4, (some .int), [])
theorem mdE_countShared : zMd mE_countShared 1 := ⟨(zt3 (i := 123) rfl), (zt1 (i := 3) rfl), ⟨by decide +kernel, by decide +kernel, by decide +kernel⟩, by decide +kernel, by decide +kernel⟩
theorem miE_countShared : zMi mE_countShared := (zt3 (i := 121) rfl)
theorem mvE_countShared : zMv mE_countShared := (zt3 (i := 122) rfl)
def mE_countWith : zM := (⟨"PrefixCodeIndex$Entry", "countWith", "(II)I"⟩, prog_3_method_8_code, 5, (some .int), [])
theorem mdE_countWith : zMd mE_countWith 2 := ⟨(zt2 (i := 185) rfl), (zt1 (i := 3) rfl), ⟨by decide +kernel, by decide +kernel, by decide +kernel⟩, by decide +kernel, by decide +kernel⟩
theorem miE_countWith : zMi mE_countWith := (zt2 (i := 183) rfl)
theorem mvE_countWith : zMv mE_countWith := (zt2 (i := 184) rfl)
def mE_daysLeft : zM := (⟨"PrefixCodeIndex$Entry", "daysLeft", "()I"⟩, prog_3_method_6_code, 1, (some .int), [])
theorem mdE_daysLeft : zMd mE_daysLeft 0 := ⟨(zt3 (i := 15) rfl), (zt1 (i := 3) rfl), ⟨by decide +kernel, by decide +kernel, by decide +kernel⟩, by decide +kernel, by decide +kernel⟩
theorem miE_daysLeft : zMi mE_daysLeft := (zt3 (i := 13) rfl)
theorem mvE_daysLeft : zMv mE_daysLeft := (zt3 (i := 14) rfl)
def mE_delete : zM := (⟨"PrefixCodeIndex$Entry", "delete", "(I)V"⟩, prog_3_method_13_code, 4, none, [])
theorem mdE_delete : zMd mE_delete 1 := ⟨(zt3 (i := 103) rfl), (zt1 (i := 3) rfl), ⟨by decide +kernel, by decide +kernel, by decide +kernel⟩, by decide +kernel, by decide +kernel⟩
theorem miE_delete : zMi mE_delete := (zt3 (i := 101) rfl)
theorem mvE_delete : zMv mE_delete := (zt3 (i := 102) rfl)
def mE_hasFaded : zM := (⟨"PrefixCodeIndex$Entry", "hasFaded", "()Z"⟩, prog_3_method_5_code, 1, (some .boolean), [])
theorem mdE_hasFaded : zMd mE_hasFaded 0 := ⟨(zt3 (i := 34) rfl), (zt1 (i := 3) rfl), ⟨by decide +kernel, by decide +kernel, by decide +kernel⟩, by decide +kernel, by decide +kernel⟩
theorem miE_hasFaded : zMi mE_hasFaded := (zt3 (i := 32) rfl)
theorem mvE_hasFaded : zMv mE_hasFaded := (zt3 (i := 33) rfl)
def mE_holds : zM := (⟨"PrefixCodeIndex$Entry", "holds", "(I)Z"⟩, prog_3_method_9_code, 3, (some .boolean), [])
theorem mdE_holds : zMd mE_holds 1 := ⟨(zt3 (i := 91) rfl), (zt1 (i := 3) rfl), ⟨by decide +kernel, by decide +kernel, by decide +kernel⟩, by decide +kernel, by decide +kernel⟩
theorem miE_holds : zMi mE_holds := (zt3 (i := 89) rfl)
theorem mvE_holds : zMv mE_holds := (zt3 (i := 90) rfl)
def mE_init : zM := (⟨"PrefixCodeIndex$Entry", "<init>", "()V"⟩, prog_3_method_1_code, 1, none, [])
theorem mdE_init : zMd mE_init 0 := ⟨(zt1 (i := 45) rfl), (zt1 (i := 3) rfl), ⟨by decide +kernel, by decide +kernel, by decide +kernel⟩, by decide +kernel, by decide +kernel⟩
theorem miE_init : zMi mE_init := (zt1 (i := 44) rfl)
def mE_insert : zM := (⟨"PrefixCodeIndex$Entry", "insert", "(I)V"⟩, prog_3_method_12_code, 3, none, [])
theorem mdE_insert : zMd mE_insert 1 := ⟨(zt3 (i := 95) rfl), (zt1 (i := 3) rfl), ⟨by decide +kernel, by decide +kernel, by decide +kernel⟩, by decide +kernel, by decide +kernel⟩
theorem miE_insert : zMi mE_insert := (zt3 (i := 93) rfl)
theorem mvE_insert : zMv mE_insert := (zt3 (i := 94) rfl)
def mE_lifetime : zM := (⟨"PrefixCodeIndex$Entry", "lifetime", "()I"⟩, prog_3_method_4_code, 2, (some .int), [])
theorem mdE_lifetime : zMd mE_lifetime 0 := ⟨(zt3 (i := 19) rfl), (zt1 (i := 3) rfl), ⟨by decide +kernel, by decide +kernel, by decide +kernel⟩, by decide +kernel, by decide +kernel⟩
theorem miE_lifetime : zMi mE_lifetime := (zt3 (i := 17) rfl)
theorem mvE_lifetime : zMv mE_lifetime := (zt3 (i := 18) rfl)
def mE_lowestAbove : zM := (⟨"PrefixCodeIndex$Entry", "lowestAbove", "(I)I"⟩, prog_3_method_10_code, 3, (some .int), [])
theorem mdE_lowestAbove : zMd mE_lowestAbove 1 := ⟨(zt4 (i := 206) rfl), (zt1 (i := 3) rfl), ⟨by decide +kernel, by decide +kernel, by decide +kernel⟩, by decide +kernel, by decide +kernel⟩
theorem miE_lowestAbove : zMi mE_lowestAbove := (zt4 (i := 204) rfl)
theorem mvE_lowestAbove : zMv mE_lowestAbove := (zt4 (i := 205) rfl)
def mE_score : zM := (⟨"PrefixCodeIndex$Entry", "score", "(II)I"⟩, prog_3_method_7_code, 3, (some .int), [])
theorem mdE_score : zMd mE_score 2 := ⟨(zt4 (i := 146) rfl), (zt1 (i := 3) rfl), ⟨by decide +kernel, by decide +kernel, by decide +kernel⟩, by decide +kernel, by decide +kernel⟩
theorem miE_score : zMi mE_score := (zt4 (i := 144) rfl)
theorem mvE_score : zMv mE_score := (zt4 (i := 145) rfl)
def mH_forget : zM := (⟨"PrefixCodeIndex$History", "forget", "()V"⟩, prog_4_method_6_code, 1, none, [])
theorem mdH_forget : zMd mH_forget 0 := ⟨(zt6 (i := 35) rfl), (zt1 (i := 4) rfl), ⟨by decide +kernel, by decide +kernel, by decide +kernel⟩, by decide +kernel, by decide +kernel⟩
theorem miH_forget : zMi mH_forget := (zt6 (i := 33) rfl)
theorem mvH_forget : zMv mH_forget := (zt6 (i := 34) rfl)
def mH_init : zM := (⟨"PrefixCodeIndex$History", "<init>", "()V"⟩, prog_4_method_1_code, 2, none, [])
theorem mdH_init : zMd mH_init 0 := ⟨(zt1 (i := 125) rfl), (zt1 (i := 4) rfl), ⟨by decide +kernel, by decide +kernel, by decide +kernel⟩, by decide +kernel, by decide +kernel⟩
theorem miH_init : zMi mH_init := (zt1 (i := 124) rfl)
def mH_keepMark : zM := (⟨"PrefixCodeIndex$History", "keepMark", "()V"⟩, prog_4_method_4_code, 1, none, [])
theorem mdH_keepMark : zMd mH_keepMark 0 := ⟨(zt3 (i := 196) rfl), (zt1 (i := 4) rfl), ⟨by decide +kernel, by decide +kernel, by decide +kernel⟩, by decide +kernel, by decide +kernel⟩
theorem miH_keepMark : zMi mH_keepMark := (zt3 (i := 194) rfl)
theorem mvH_keepMark : zMv mH_keepMark := (zt3 (i := 195) rfl)
def mH_mark : zM := (⟨"PrefixCodeIndex$History", "mark", "(LPrefixCodeIndex$Contents;)V"⟩, prog_4_method_2_code, 2, none, [])
theorem mdH_mark : zMd mH_mark 1 := ⟨(zt3 (i := 68) rfl), (zt1 (i := 4) rfl), ⟨by decide +kernel, by decide +kernel, by decide +kernel⟩, by decide +kernel, by decide +kernel⟩
theorem miH_mark : zMi mH_mark := (zt3 (i := 66) rfl)
theorem mvH_mark : zMv mH_mark := (zt3 (i := 67) rfl)
def mH_returnToMark : zM := (⟨"PrefixCodeIndex$History", "returnToMark", "(LPrefixCodeIndex$Contents;)V"⟩, prog_4_method_3_code, 2, none, [])
theorem mdH_returnToMark : zMd mH_returnToMark 1 := ⟨(zt5 (i := 234) rfl), (zt1 (i := 4) rfl), ⟨by decide +kernel, by decide +kernel, by decide +kernel⟩, by decide +kernel, by decide +kernel⟩
theorem miH_returnToMark : zMi mH_returnToMark := (zt5 (i := 232) rfl)
theorem mvH_returnToMark : zMv mH_returnToMark := (zt5 (i := 233) rfl)
def mH_takeBack : zM := (⟨"PrefixCodeIndex$History", "takeBack", "(LPrefixCodeIndex$Contents;)V"⟩, prog_4_method_5_code, 2, none, [])
theorem mdH_takeBack : zMd mH_takeBack 1 := ⟨(zt6 (i := 23) rfl), (zt1 (i := 4) rfl), ⟨by decide +kernel, by decide +kernel, by decide +kernel⟩, by decide +kernel, by decide +kernel⟩
theorem miH_takeBack : zMi mH_takeBack := (zt6 (i := 21) rfl)
theorem mvH_takeBack : zMv mH_takeBack := (zt6 (i := 22) rfl)
def mL_clear : zM := (⟨"PrefixCodeIndex$Line", "clear", "()V"⟩, prog_5_method_2_code, 1, none, [])
theorem mdL_clear : zMd mL_clear 0 := ⟨(zt5 (i := 55) rfl), (zt1 (i := 8) rfl), ⟨by decide +kernel, by decide +kernel, by decide +kernel⟩, by decide +kernel, by decide +kernel⟩
theorem miL_clear : zMi mL_clear := (zt5 (i := 53) rfl)
theorem mvL_clear : zMv mL_clear := (zt5 (i := 54) rfl)
def mL_digitOf : zM := (⟨"PrefixCodeIndex$Line", "digitOf", "(I)C"⟩, prog_5_method_7_code, 1, (some .char), [])
theorem mdL_digitOf : zMd mL_digitOf 1 := ⟨(zt5 (i := 70) rfl), (zt1 (i := 8) rfl), ⟨by decide +kernel, by decide +kernel, by decide +kernel⟩, by decide +kernel, by decide +kernel⟩
theorem msL_digitOf : zMs mL_digitOf := (zt5 (i := 69) rfl)
def mL_init : zM := (⟨"PrefixCodeIndex$Line", "<init>", "()V"⟩, prog_5_method_1_code, 1, none, [])
theorem mdL_init : zMd mL_init 0 := ⟨(zt1 (i := 217) rfl), (zt1 (i := 8) rfl), ⟨by decide +kernel, by decide +kernel, by decide +kernel⟩, by decide +kernel, by decide +kernel⟩
theorem miL_init : zMi mL_init := (zt1 (i := 216) rfl)
def mL_put : zM := (⟨"PrefixCodeIndex$Line", "put", "(C)V"⟩, prog_5_method_3_code, 2, none, [])
theorem mdL_put : zMd mL_put 1 := ⟨(zt5 (i := 63) rfl), (zt1 (i := 8) rfl), ⟨by decide +kernel, by decide +kernel, by decide +kernel⟩, by decide +kernel, by decide +kernel⟩
theorem miL_put : zMi mL_put := (zt5 (i := 61) rfl)
theorem mvL_put : zMv mL_put := (zt5 (i := 62) rfl)
def mL_putCode : zM := (⟨"PrefixCodeIndex$Line", "putCode", "(I)V"⟩, prog_5_method_6_code, 3, none, [])
theorem mdL_putCode : zMd mL_putCode 1 := ⟨(zt5 (i := 78) rfl), (zt1 (i := 8) rfl), ⟨by decide +kernel, by decide +kernel, by decide +kernel⟩, by decide +kernel, by decide +kernel⟩
theorem miL_putCode : zMi mL_putCode := (zt5 (i := 76) rfl)
theorem mvL_putCode : zMv mL_putCode := (zt5 (i := 77) rfl)
def mL_putField : zM := (⟨"PrefixCodeIndex$Line", "putField", "(CI)V"⟩, prog_5_method_4_code, 3, none, [])
theorem mdL_putField : zMd mL_putField 2 := ⟨(zt5 (i := 59) rfl), (zt1 (i := 8) rfl), ⟨by decide +kernel, by decide +kernel, by decide +kernel⟩, by decide +kernel, by decide +kernel⟩
theorem miL_putField : zMi mL_putField := (zt5 (i := 57) rfl)
theorem mvL_putField : zMv mL_putField := (zt5 (i := 58) rfl)
def mL_putNumber : zM := (⟨"PrefixCodeIndex$Line", "putNumber", "(I)V"⟩, prog_5_method_5_code, 5, none, [])
theorem mdL_putNumber : zMd mL_putNumber 1 := ⟨(zt5 (i := 67) rfl), (zt1 (i := 8) rfl), ⟨by decide +kernel, by decide +kernel, by decide +kernel⟩, by decide +kernel, by decide +kernel⟩
theorem miL_putNumber : zMi mL_putNumber := (zt5 (i := 65) rfl)
theorem mvL_putNumber : zMv mL_putNumber := (zt5 (i := 66) rfl)
def mM_addCode : zM := (⟨"PrefixCodeIndexModel", "addCode", "(II)I"⟩, prog_10_method_25_code, 3, (some .int), [])
theorem mdM_addCode : zMd mM_addCode 2 := ⟨(zt6 (i := 140) rfl), (zt1 (i := 9) rfl), ⟨by decide +kernel, by decide +kernel, by decide +kernel⟩, by decide +kernel, by decide +kernel⟩
theorem miM_addCode : zMi mM_addCode := (zt6 (i := 138) rfl)
theorem mvM_addCode : zMv mM_addCode := (zt6 (i := 139) rfl)
def mM_addEntry : zM := (⟨"PrefixCodeIndexModel", "addEntry", "(I)I"⟩, prog_10_method_23_code, 2, (some .int), [])
theorem mdM_addEntry : zMd mM_addEntry 1 := ⟨(zt6 (i := 113) rfl), (zt1 (i := 9) rfl), ⟨by decide +kernel, by decide +kernel, by decide +kernel⟩, by decide +kernel, by decide +kernel⟩
theorem miM_addEntry : zMi mM_addEntry := (zt6 (i := 111) rfl)
theorem mvM_addEntry : zMv mM_addEntry := (zt6 (i := 112) rfl)
def mM_addedTotal : zM := (⟨"PrefixCodeIndexModel", "addedTotal", "()I"⟩, prog_10_method_74_code, 1, (some .int), [])
theorem mdM_addedTotal : zMd mM_addedTotal 0 := ⟨(zt7 (i := 161) rfl), (zt1 (i := 9) rfl), ⟨by decide +kernel, by decide +kernel, by decide +kernel⟩, by decide +kernel, by decide +kernel⟩
theorem miM_addedTotal : zMi mM_addedTotal := (zt7 (i := 159) rfl)
theorem mvM_addedTotal : zMv mM_addedTotal := (zt7 (i := 160) rfl)
def mM_ageOf : zM := (⟨"PrefixCodeIndexModel", "ageOf", "(I)I"⟩, prog_10_method_48_code, 2, (some .int), [])
theorem mdM_ageOf : zMd mM_ageOf 1 := ⟨(zt7 (i := 33) rfl), (zt1 (i := 9) rfl), ⟨by decide +kernel, by decide +kernel, by decide +kernel⟩, by decide +kernel, by decide +kernel⟩
theorem miM_ageOf : zMi mM_ageOf := (zt7 (i := 31) rfl)
theorem mvM_ageOf : zMv mM_ageOf := (zt7 (i := 32) rfl)
def mM_append : zM := (⟨"PrefixCodeIndexModel", "append", "(C)I"⟩, prog_10_method_87_code, 2, (some .int), [])
theorem mdM_append : zMd mM_append 1 := ⟨(zt7 (i := 214) rfl), (zt1 (i := 9) rfl), ⟨by decide +kernel, by decide +kernel, by decide +kernel⟩, by decide +kernel, by decide +kernel⟩
theorem miM_append : zMi mM_append := (zt7 (i := 212) rfl)
theorem mvM_append : zMv mM_append := (zt7 (i := 213) rfl)
def mM_changed : zM := (⟨"PrefixCodeIndexModel", "changed", "(I)I"⟩, prog_10_method_6_code, 3, (some .int), [])
theorem mdM_changed : zMd mM_changed 1 := ⟨(zt6 (i := 136) rfl), (zt1 (i := 9) rfl), ⟨by decide +kernel, by decide +kernel, by decide +kernel⟩, by decide +kernel, by decide +kernel⟩
theorem miM_changed : zMi mM_changed := (zt6 (i := 135) rfl)
theorem mvM_changed : zMv mM_changed := (zt0 (i := 36) rfl)
def mM_codeAfter : zM := (⟨"PrefixCodeIndexModel", "codeAfter", "(I)I"⟩, prog_10_method_67_code, 3, (some .int), [])
theorem mdM_codeAfter : zMd mM_codeAfter 1 := ⟨(zt7 (i := 127) rfl), (zt1 (i := 9) rfl), ⟨by decide +kernel, by decide +kernel, by decide +kernel⟩, by decide +kernel, by decide +kernel⟩
theorem miM_codeAfter : zMi mM_codeAfter := (zt7 (i := 125) rfl)
theorem mvM_codeAfter : zMv mM_codeAfter := (zt7 (i := 126) rfl)
def mM_codeAt : zM := (⟨"PrefixCodeIndexModel", "codeAt", "(II)I"⟩, prog_10_method_53_code, 4, (some .int), [])
theorem mdM_codeAt : zMd mM_codeAt 2 := ⟨(zt7 (i := 53) rfl), (zt1 (i := 9) rfl), ⟨by decide +kernel, by decide +kernel, by decide +kernel⟩, by decide +kernel, by decide +kernel⟩
theorem miM_codeAt : zMi mM_codeAt := (zt7 (i := 51) rfl)
theorem mvM_codeAt : zMv mM_codeAt := (zt7 (i := 52) rfl)
def mM_codeCount : zM := (⟨"PrefixCodeIndexModel", "codeCount", "(I)I"⟩, prog_10_method_52_code, 2, (some .int), [])
theorem mdM_codeCount : zMd mM_codeCount 1 := ⟨(zt7 (i := 49) rfl), (zt1 (i := 9) rfl), ⟨by decide +kernel, by decide +kernel, by decide +kernel⟩, by decide +kernel, by decide +kernel⟩
theorem miM_codeCount : zMi mM_codeCount := (zt7 (i := 47) rfl)
theorem mvM_codeCount : zMv mM_codeCount := (zt7 (i := 48) rfl)
def mM_codeIt : zM := (⟨"PrefixCodeIndexModel", "codeIt", "(II)I"⟩, prog_10_method_24_code, 4, (some .int), [])
theorem mdM_codeIt : zMd mM_codeIt 2 := ⟨(zt6 (i := 144) rfl), (zt1 (i := 9) rfl), ⟨by decide +kernel, by decide +kernel, by decide +kernel⟩, by decide +kernel, by decide +kernel⟩
theorem miM_codeIt : zMi mM_codeIt := (zt6 (i := 143) rfl)
theorem mvM_codeIt : zMv mM_codeIt := (zt0 (i := 37) rfl)
def mM_codeOf : zM := (⟨"PrefixCodeIndexModel", "codeOf", "(II)I"⟩, prog_10_method_12_code, 3, (some .int), [])
theorem mdM_codeOf : zMd mM_codeOf 2 := ⟨(zt6 (i := 157) rfl), (zt1 (i := 9) rfl), ⟨by decide +kernel, by decide +kernel, by decide +kernel⟩, by decide +kernel, by decide +kernel⟩
theorem miM_codeOf : zMi mM_codeOf := (zt6 (i := 156) rfl)
theorem mvM_codeOf : zMv mM_codeOf := (zt0 (i := 40) rfl)
def mM_codesWith : zM := (⟨"PrefixCodeIndexModel", "codesWith", "(II)I"⟩, prog_10_method_62_code, 5, (some .int), [])
theorem mdM_codesWith : zMd mM_codesWith 2 := ⟨(zt7 (i := 102) rfl), (zt1 (i := 9) rfl), ⟨by decide +kernel, by decide +kernel, by decide +kernel⟩, by decide +kernel, by decide +kernel⟩
theorem miM_codesWith : zMi mM_codesWith := (zt7 (i := 100) rfl)
theorem mvM_codesWith : zMv mM_codesWith := (zt7 (i := 101) rfl)
def mM_common : zM := (⟨"PrefixCodeIndexModel", "common", "(II)I"⟩, prog_10_method_32_code, 5, (some .int), [])
theorem mdM_common : zMd mM_common 2 := ⟨(zt6 (i := 207) rfl), (zt1 (i := 9) rfl), ⟨by decide +kernel, by decide +kernel, by decide +kernel⟩, by decide +kernel, by decide +kernel⟩
theorem miM_common : zMi mM_common := (zt6 (i := 206) rfl)
theorem mvM_common : zMv mM_common := (zt0 (i := 47) rfl)
def mM_commonestCode : zM := (⟨"PrefixCodeIndexModel", "commonestCode", "()I"⟩, prog_10_method_68_code, 5, (some .int), [])
theorem mdM_commonestCode : zMd mM_commonestCode 0 := ⟨(zt7 (i := 132) rfl), (zt1 (i := 9) rfl), ⟨by decide +kernel, by decide +kernel, by decide +kernel⟩, by decide +kernel, by decide +kernel⟩
theorem miM_commonestCode : zMi mM_commonestCode := (zt7 (i := 130) rfl)
theorem mvM_commonestCode : zMv mM_commonestCode := (zt7 (i := 131) rfl)
def mM_daysLeft : zM := (⟨"PrefixCodeIndexModel", "daysLeft", "(I)I"⟩, prog_10_method_19_code, 2, (some .int), [])
theorem mdM_daysLeft : zMd mM_daysLeft 1 := ⟨(zt7 (i := 148) rfl), (zt1 (i := 9) rfl), ⟨by decide +kernel, by decide +kernel, by decide +kernel⟩, by decide +kernel, by decide +kernel⟩
theorem miM_daysLeft : zMi mM_daysLeft := (zt7 (i := 147) rfl)
theorem mvM_daysLeft : zMv mM_daysLeft := (zt0 (i := 59) rfl)
def mM_daysUntilFaded : zM := (⟨"PrefixCodeIndexModel", "daysUntilFaded", "(I)I"⟩, prog_10_method_71_code, 2, (some .int), [])
theorem mdM_daysUntilFaded : zMd mM_daysUntilFaded 1 := ⟨(zt7 (i := 144) rfl), (zt1 (i := 9) rfl), ⟨by decide +kernel, by decide +kernel, by decide +kernel⟩, by decide +kernel, by decide +kernel⟩
theorem miM_daysUntilFaded : zMi mM_daysUntilFaded := (zt7 (i := 142) rfl)
theorem mvM_daysUntilFaded : zMv mM_daysUntilFaded := (zt7 (i := 143) rfl)
def mM_daysUntilFadedByDays : zM := (⟨"PrefixCodeIndexModel", "daysUntilFadedByDays", "(I)I"⟩, prog_10_method_72_code, 2, (some .int), [])
theorem mdM_daysUntilFadedByDays : zMd mM_daysUntilFadedByDays 1 := ⟨(zt7 (i := 152) rfl), (zt1 (i := 9) rfl), ⟨by decide +kernel, by decide +kernel, by decide +kernel⟩, by decide +kernel, by decide +kernel⟩
theorem miM_daysUntilFadedByDays : zMi mM_daysUntilFadedByDays := (zt7 (i := 150) rfl)
theorem mvM_daysUntilFadedByDays : zMv mM_daysUntilFadedByDays := (zt7 (i := 151) rfl)
def mM_digit : zM := (⟨"PrefixCodeIndexModel", "digit", "()I"⟩, prog_10_method_90_code, 2, (some .int), [])
theorem mdM_digit : zMd mM_digit 0 := ⟨(zt7 (i := 236) rfl), (zt1 (i := 9) rfl), ⟨by decide +kernel, by decide +kernel, by decide +kernel⟩, by decide +kernel, by decide +kernel⟩
theorem miM_digit : zMi mM_digit := (zt7 (i := 235) rfl)
theorem mvM_digit : zMv mM_digit := (zt0 (i := 66) rfl)
def mM_does : zM := (⟨"PrefixCodeIndexModel", "does", "(I)V"⟩, prog_10_method_96_code, 4, none, [])
theorem mdM_does : zMd mM_does 1 := ⟨(zt8 (i := 18) rfl), (zt1 (i := 9) rfl), ⟨by decide +kernel, by decide +kernel, by decide +kernel⟩, by decide +kernel, by decide +kernel⟩
theorem miM_does : zMi mM_does := (zt8 (i := 17) rfl)
theorem mvM_does : zMv mM_does := (zt0 (i := 71) rfl)
def mM_dropIt : zM := (⟨"PrefixCodeIndexModel", "dropIt", "(I)I"⟩, prog_10_method_28_code, 3, (some .int), [])
theorem mdM_dropIt : zMd mM_dropIt 1 := ⟨(zt6 (i := 183) rfl), (zt1 (i := 9) rfl), ⟨by decide +kernel, by decide +kernel, by decide +kernel⟩, by decide +kernel, by decide +kernel⟩
theorem miM_dropIt : zMi mM_dropIt := (zt6 (i := 182) rfl)
theorem mvM_dropIt : zMv mM_dropIt := (zt0 (i := 43) rfl)
def mM_entriesIn : zM := (⟨"PrefixCodeIndexModel", "entriesIn", "(I)I"⟩, prog_10_method_57_code, 4, (some .int), [])
theorem mdM_entriesIn : zMd mM_entriesIn 1 := ⟨(zt7 (i := 69) rfl), (zt1 (i := 9) rfl), ⟨by decide +kernel, by decide +kernel, by decide +kernel⟩, by decide +kernel, by decide +kernel⟩
theorem miM_entriesIn : zMi mM_entriesIn := (zt7 (i := 67) rfl)
theorem mvM_entriesIn : zMv mM_entriesIn := (zt7 (i := 68) rfl)
def mM_entriesWith : zM := (⟨"PrefixCodeIndexModel", "entriesWith", "(I)I"⟩, prog_10_method_66_code, 2, (some .int), [])
theorem mdM_entriesWith : zMd mM_entriesWith 1 := ⟨(zt7 (i := 123) rfl), (zt1 (i := 9) rfl), ⟨by decide +kernel, by decide +kernel, by decide +kernel⟩, by decide +kernel, by decide +kernel⟩
theorem miM_entriesWith : zMi mM_entriesWith := (zt7 (i := 121) rfl)
theorem mvM_entriesWith : zMv mM_entriesWith := (zt7 (i := 122) rfl)
def mM_entryAt : zM := (⟨"PrefixCodeIndexModel", "entryAt", "(I)I"⟩, prog_10_method_7_code, 1, (some .int), [])
theorem mdM_entryAt : zMd mM_entryAt 1 := ⟨(zt6 (i := 132) rfl), (zt1 (i := 9) rfl), ⟨by decide +kernel, by decide +kernel, by decide +kernel⟩, by decide +kernel, by decide +kernel⟩
theorem msM_entryAt : zMs mM_entryAt := (zt6 (i := 131) rfl)
def mM_entryCount : zM := (⟨"PrefixCodeIndexModel", "entryCount", "()I"⟩, prog_10_method_44_code, 1, (some .int), [])
theorem mdM_entryCount : zMd mM_entryCount 0 := ⟨(zt7 (i := 13) rfl), (zt1 (i := 9) rfl), ⟨by decide +kernel, by decide +kernel, by decide +kernel⟩, by decide +kernel, by decide +kernel⟩
theorem miM_entryCount : zMi mM_entryCount := (zt7 (i := 11) rfl)
theorem mvM_entryCount : zMv mM_entryCount := (zt7 (i := 12) rfl)
def mM_entryIt : zM := (⟨"PrefixCodeIndexModel", "entryIt", "(I)I"⟩, prog_10_method_22_code, 3, (some .int), [])
theorem mdM_entryIt : zMd mM_entryIt 1 := ⟨(zt6 (i := 121) rfl), (zt1 (i := 9) rfl), ⟨by decide +kernel, by decide +kernel, by decide +kernel⟩, by decide +kernel, by decide +kernel⟩
theorem miM_entryIt : zMi mM_entryIt := (zt6 (i := 120) rfl)
theorem mvM_entryIt : zMv mM_entryIt := (zt0 (i := 34) rfl)
def mM_errorPosition : zM := (⟨"PrefixCodeIndexModel", "errorPosition", "()I"⟩, prog_10_method_98_code, 1, (some .int), [])
theorem mdM_errorPosition : zMd mM_errorPosition 0 := ⟨(zt8 (i := 22) rfl), (zt1 (i := 9) rfl), ⟨by decide +kernel, by decide +kernel, by decide +kernel⟩, by decide +kernel, by decide +kernel⟩
theorem miM_errorPosition : zMi mM_errorPosition := (zt8 (i := 20) rfl)
theorem mvM_errorPosition : zMv mM_errorPosition := (zt8 (i := 21) rfl)
def mM_expects : zM := (⟨"PrefixCodeIndexModel", "expects", "(I)V"⟩, prog_10_method_89_code, 2, none, [])
theorem mdM_expects : zMd mM_expects 1 := ⟨(zt8 (i := 14) rfl), (zt1 (i := 9) rfl), ⟨by decide +kernel, by decide +kernel, by decide +kernel⟩, by decide +kernel, by decide +kernel⟩
theorem miM_expects : zMi mM_expects := (zt8 (i := 13) rfl)
theorem mvM_expects : zMv mM_expects := (zt0 (i := 70) rfl)
def mM_fadedShare : zM := (⟨"PrefixCodeIndexModel", "fadedShare", "()F"⟩, prog_10_method_79_code, 1, (some .float), [])
theorem mdM_fadedShare : zMd mM_fadedShare 0 := ⟨(zt7 (i := 181) rfl), (zt1 (i := 9) rfl), ⟨by decide +kernel, by decide +kernel, by decide +kernel⟩, by decide +kernel, by decide +kernel⟩
theorem miM_fadedShare : zMi mM_fadedShare := (zt7 (i := 179) rfl)
theorem mvM_fadedShare : zMv mM_fadedShare := (zt7 (i := 180) rfl)
def mM_fadedTotal : zM := (⟨"PrefixCodeIndexModel", "fadedTotal", "()I"⟩, prog_10_method_77_code, 1, (some .int), [])
theorem mdM_fadedTotal : zMd mM_fadedTotal 0 := ⟨(zt7 (i := 173) rfl), (zt1 (i := 9) rfl), ⟨by decide +kernel, by decide +kernel, by decide +kernel⟩, by decide +kernel, by decide +kernel⟩
theorem miM_fadedTotal : zMi mM_fadedTotal := (zt7 (i := 171) rfl)
theorem mvM_fadedTotal : zMv mM_fadedTotal := (zt7 (i := 172) rfl)
def mM_fadingWithin : zM := (⟨"PrefixCodeIndexModel", "fadingWithin", "(I)I"⟩, prog_10_method_73_code, 4, (some .int), [])
theorem mdM_fadingWithin : zMd mM_fadingWithin 1 := ⟨(zt7 (i := 157) rfl), (zt1 (i := 9) rfl), ⟨by decide +kernel, by decide +kernel, by decide +kernel⟩, by decide +kernel, by decide +kernel⟩
theorem miM_fadingWithin : zMi mM_fadingWithin := (zt7 (i := 155) rfl)
theorem mvM_fadingWithin : zMv mM_fadingWithin := (zt7 (i := 156) rfl)
def mM_failedCommand : zM := (⟨"PrefixCodeIndexModel", "failedCommand", "()I"⟩, prog_10_method_99_code, 1, (some .int), [])
theorem mdM_failedCommand : zMd mM_failedCommand 0 := ⟨(zt8 (i := 26) rfl), (zt1 (i := 9) rfl), ⟨by decide +kernel, by decide +kernel, by decide +kernel⟩, by decide +kernel, by decide +kernel⟩
theorem miM_failedCommand : zMi mM_failedCommand := (zt8 (i := 24) rfl)
theorem mvM_failedCommand : zMv mM_failedCommand := (zt8 (i := 25) rfl)
def mM_find : zM := (⟨"PrefixCodeIndexModel", "find", "(I)I"⟩, prog_10_method_8_code, 3, (some .int), [])
theorem mdM_find : zMd mM_find 1 := ⟨(zt6 (i := 148) rfl), (zt1 (i := 9) rfl), ⟨by decide +kernel, by decide +kernel, by decide +kernel⟩, by decide +kernel, by decide +kernel⟩
theorem miM_find : zMi mM_find := (zt6 (i := 147) rfl)
theorem mvM_find : zMv mM_find := (zt0 (i := 38) rfl)
def mM_formatEntry : zM := (⟨"PrefixCodeIndexModel", "formatEntry", "(I)I"⟩, prog_10_method_84_code, 5, (some .int), [])
theorem mdM_formatEntry : zMd mM_formatEntry 1 := ⟨(zt7 (i := 189) rfl), (zt1 (i := 9) rfl), ⟨by decide +kernel, by decide +kernel, by decide +kernel⟩, by decide +kernel, by decide +kernel⟩
theorem miM_formatEntry : zMi mM_formatEntry := (zt7 (i := 187) rfl)
theorem mvM_formatEntry : zMv mM_formatEntry := (zt7 (i := 188) rfl)
def mM_formatResults : zM := (⟨"PrefixCodeIndexModel", "formatResults", "(II)I"⟩, prog_10_method_85_code, 6, (some .int), [])
theorem mdM_formatResults : zMd mM_formatResults 2 := ⟨(zt7 (i := 206) rfl), (zt1 (i := 9) rfl), ⟨by decide +kernel, by decide +kernel, by decide +kernel⟩, by decide +kernel, by decide +kernel⟩
theorem miM_formatResults : zMi mM_formatResults := (zt7 (i := 204) rfl)
theorem mvM_formatResults : zMv mM_formatResults := (zt7 (i := 205) rfl)
def mM_has : zM := (⟨"PrefixCodeIndexModel", "has", "(III)Z"⟩, prog_10_method_11_code, 3, (some .boolean), [])
theorem mdM_has : zMd mM_has 3 := ⟨(zt6 (i := 160) rfl), (zt1 (i := 9) rfl), ⟨by decide +kernel, by decide +kernel, by decide +kernel⟩, by decide +kernel, by decide +kernel⟩
theorem msM_has : zMs mM_has := (zt6 (i := 159) rfl)
def mM_hasCode : zM := (⟨"PrefixCodeIndexModel", "hasCode", "(II)Z"⟩, prog_10_method_54_code, 3, (some .boolean), [])
theorem mdM_hasCode : zMd mM_hasCode 2 := ⟨(zt7 (i := 57) rfl), (zt1 (i := 9) rfl), ⟨by decide +kernel, by decide +kernel, by decide +kernel⟩, by decide +kernel, by decide +kernel⟩
theorem miM_hasCode : zMi mM_hasCode := (zt7 (i := 55) rfl)
theorem mvM_hasCode : zMv mM_hasCode := (zt7 (i := 56) rfl)
def mM_here : zM := (⟨"PrefixCodeIndexModel", "here", "()I"⟩, prog_10_method_88_code, 1, (some .int), [])
theorem mdM_here : zMd mM_here 0 := ⟨(zt8 (i := 0) rfl), (zt1 (i := 9) rfl), ⟨by decide +kernel, by decide +kernel, by decide +kernel⟩, by decide +kernel, by decide +kernel⟩
theorem miM_here : zMi mM_here := (zt7 (i := 239) rfl)
theorem mvM_here : zMv mM_here := (zt0 (i := 67) rfl)
def mM_hitsOf : zM := (⟨"PrefixCodeIndexModel", "hitsOf", "(I)I"⟩, prog_10_method_49_code, 2, (some .int), [])
theorem mdM_hitsOf : zMd mM_hitsOf 1 := ⟨(zt7 (i := 37) rfl), (zt1 (i := 9) rfl), ⟨by decide +kernel, by decide +kernel, by decide +kernel⟩, by decide +kernel, by decide +kernel⟩
theorem miM_hitsOf : zMi mM_hitsOf := (zt7 (i := 35) rfl)
theorem mvM_hitsOf : zMv mM_hitsOf := (zt7 (i := 36) rfl)
def mM_holders : zM := (⟨"PrefixCodeIndexModel", "holders", "(I)I"⟩, prog_10_method_17_code, 2, (some .int), [])
theorem mdM_holders : zMd mM_holders 1 := ⟨(zt7 (i := 106) rfl), (zt1 (i := 9) rfl), ⟨by decide +kernel, by decide +kernel, by decide +kernel⟩, by decide +kernel, by decide +kernel⟩
theorem miM_holders : zMi mM_holders := (zt7 (i := 105) rfl)
theorem mvM_holders : zMv mM_holders := (zt0 (i := 58) rfl)
def mM_idAt : zM := (⟨"PrefixCodeIndexModel", "idAt", "(I)I"⟩, prog_10_method_45_code, 2, (some .int), [])
theorem mdM_idAt : zMd mM_idAt 1 := ⟨(zt7 (i := 21) rfl), (zt1 (i := 9) rfl), ⟨by decide +kernel, by decide +kernel, by decide +kernel⟩, by decide +kernel, by decide +kernel⟩
theorem miM_idAt : zMi mM_idAt := (zt7 (i := 19) rfl)
theorem mvM_idAt : zMv mM_idAt := (zt7 (i := 20) rfl)
def mM_in : zM := (⟨"PrefixCodeIndexModel", "in", "(JJJ)Z"⟩, prog_10_method_4_code, 6, (some .boolean), [])
theorem mdM_in : zMd mM_in 3 := ⟨(zt6 (i := 125) rfl), (zt1 (i := 9) rfl), ⟨by decide +kernel, by decide +kernel, by decide +kernel⟩, by decide +kernel, by decide +kernel⟩
theorem msM_in : zMs mM_in := (zt6 (i := 124) rfl)
def mM_init : zM := (⟨"PrefixCodeIndexModel", "<init>", "()V"⟩, prog_10_method_1_code, 1, none, [])
theorem mdM_init : zMd mM_init 0 := ⟨(zt6 (i := 40) rfl), (zt1 (i := 9) rfl), ⟨by decide +kernel, by decide +kernel, by decide +kernel⟩, by decide +kernel, by decide +kernel⟩
theorem miM_init : zMi mM_init := (zt6 (i := 39) rfl)
def mM_isConsistent : zM := (⟨"PrefixCodeIndexModel", "isConsistent", "()Z"⟩, prog_10_method_80_code, 1, (some .boolean), [])
theorem mdM_isConsistent : zMd mM_isConsistent 0 := ⟨(zt7 (i := 185) rfl), (zt1 (i := 9) rfl), ⟨by decide +kernel, by decide +kernel, by decide +kernel⟩, by decide +kernel, by decide +kernel⟩
theorem miM_isConsistent : zMi mM_isConsistent := (zt7 (i := 183) rfl)
theorem mvM_isConsistent : zMv mM_isConsistent := (zt7 (i := 184) rfl)
def mM_isPrefix : zM := (⟨"PrefixCodeIndexModel", "isPrefix", "(III)Z"⟩, prog_10_method_10_code, 3, (some .boolean), [])
theorem mdM_isPrefix : zMd mM_isPrefix 3 := ⟨(zt6 (i := 236) rfl), (zt1 (i := 9) rfl), ⟨by decide +kernel, by decide +kernel, by decide +kernel⟩, by decide +kernel, by decide +kernel⟩
theorem msM_isPrefix : zMs mM_isPrefix := (zt6 (i := 235) rfl)
def mM_joinIt : zM := (⟨"PrefixCodeIndexModel", "joinIt", "(I)I"⟩, prog_10_method_37_code, 3, (some .int), [])
theorem mdM_joinIt : zMd mM_joinIt 1 := ⟨(zt6 (i := 225) rfl), (zt1 (i := 9) rfl), ⟨by decide +kernel, by decide +kernel, by decide +kernel⟩, by decide +kernel, by decide +kernel⟩
theorem miM_joinIt : zMi mM_joinIt := (zt6 (i := 224) rfl)
theorem mvM_joinIt : zMv mM_joinIt := (zt0 (i := 49) rfl)
def mM_joinSegments : zM := (⟨"PrefixCodeIndexModel", "joinSegments", "(I)I"⟩, prog_10_method_38_code, 2, (some .int), [])
theorem mdM_joinSegments : zMd mM_joinSegments 1 := ⟨(zt6 (i := 221) rfl), (zt1 (i := 9) rfl), ⟨by decide +kernel, by decide +kernel, by decide +kernel⟩, by decide +kernel, by decide +kernel⟩
theorem miM_joinSegments : zMi mM_joinSegments := (zt6 (i := 219) rfl)
theorem mvM_joinSegments : zMv mM_joinSegments := (zt6 (i := 220) rfl)
def mM_leaves : zM := (⟨"PrefixCodeIndexModel", "leaves", "(I)V"⟩, prog_10_method_20_code, 3, none, [])
theorem mdM_leaves : zMd mM_leaves 1 := ⟨(zt6 (i := 187) rfl), (zt1 (i := 9) rfl), ⟨by decide +kernel, by decide +kernel, by decide +kernel⟩, by decide +kernel, by decide +kernel⟩
theorem miM_leaves : zMi mM_leaves := (zt6 (i := 186) rfl)
theorem mvM_leaves : zMv mM_leaves := (zt0 (i := 44) rfl)
def mM_lifetime : zM := (⟨"PrefixCodeIndexModel", "lifetime", "(I)I"⟩, prog_10_method_18_code, 3, (some .int), [])
theorem mdM_lifetime : zMd mM_lifetime 1 := ⟨(zt7 (i := 9) rfl), (zt1 (i := 9) rfl), ⟨by decide +kernel, by decide +kernel, by decide +kernel⟩, by decide +kernel, by decide +kernel⟩
theorem miM_lifetime : zMi mM_lifetime := (zt7 (i := 8) rfl)
theorem mvM_lifetime : zMv mM_lifetime := (zt0 (i := 52) rfl)
def mM_lifetimeOf : zM := (⟨"PrefixCodeIndexModel", "lifetimeOf", "(I)I"⟩, prog_10_method_50_code, 2, (some .int), [])
theorem mdM_lifetimeOf : zMd mM_lifetimeOf 1 := ⟨(zt7 (i := 41) rfl), (zt1 (i := 9) rfl), ⟨by decide +kernel, by decide +kernel, by decide +kernel⟩, by decide +kernel, by decide +kernel⟩
theorem miM_lifetimeOf : zMi mM_lifetimeOf := (zt7 (i := 39) rfl)
theorem mvM_lifetimeOf : zMv mM_lifetimeOf := (zt7 (i := 40) rfl)
def mM_likeness : zM := (⟨"PrefixCodeIndexModel", "likeness", "(I)I"⟩, prog_10_method_93_code, 4, (some .int), [])
theorem mdM_likeness : zMd mM_likeness 1 := ⟨(zt7 (i := 228) rfl), (zt1 (i := 9) rfl), ⟨by decide +kernel, by decide +kernel, by decide +kernel⟩, by decide +kernel, by decide +kernel⟩
theorem miM_likeness : zMi mM_likeness := (zt7 (i := 227) rfl)
theorem mvM_likeness : zMv mM_likeness := (zt0 (i := 64) rfl)
def mM_lineChar : zM := (⟨"PrefixCodeIndexModel", "lineChar", "(I)C"⟩, prog_10_method_86_code, 2, (some .char), [])
theorem mdM_lineChar : zMd mM_lineChar 1 := ⟨(zt7 (i := 210) rfl), (zt1 (i := 9) rfl), ⟨by decide +kernel, by decide +kernel, by decide +kernel⟩, by decide +kernel, by decide +kernel⟩
theorem miM_lineChar : zMi mM_lineChar := (zt7 (i := 208) rfl)
theorem mvM_lineChar : zMv mM_lineChar := (zt7 (i := 209) rfl)
def mM_many : zM := (⟨"PrefixCodeIndexModel", "many", "(III)I"⟩, prog_10_method_13_code, 6, (some .int), [])
theorem mdM_many : zMd mM_many 3 := ⟨(zt6 (i := 153) rfl), (zt1 (i := 9) rfl), ⟨by decide +kernel, by decide +kernel, by decide +kernel⟩, by decide +kernel, by decide +kernel⟩
theorem miM_many : zMi mM_many := (zt6 (i := 152) rfl)
theorem mvM_many : zMv mM_many := (zt0 (i := 39) rfl)
def mM_matches : zM := (⟨"PrefixCodeIndexModel", "matches", "(III)Z"⟩, prog_10_method_55_code, 4, (some .boolean), [])
theorem mdM_matches : zMd mM_matches 3 := ⟨(zt7 (i := 61) rfl), (zt1 (i := 9) rfl), ⟨by decide +kernel, by decide +kernel, by decide +kernel⟩, by decide +kernel, by decide +kernel⟩
theorem miM_matches : zMi mM_matches := (zt7 (i := 59) rfl)
theorem mvM_matches : zMv mM_matches := (zt7 (i := 60) rfl)
def mM_meanCodes : zM := (⟨"PrefixCodeIndexModel", "meanCodes", "()D"⟩, prog_10_method_78_code, 3, (some .double), [])
theorem mdM_meanCodes : zMd mM_meanCodes 0 := ⟨(zt7 (i := 177) rfl), (zt1 (i := 9) rfl), ⟨by decide +kernel, by decide +kernel, by decide +kernel⟩, by decide +kernel, by decide +kernel⟩
theorem miM_meanCodes : zMi mM_meanCodes := (zt7 (i := 175) rfl)
theorem mvM_meanCodes : zMv mM_meanCodes := (zt7 (i := 176) rfl)
def mM_merge : zM := (⟨"PrefixCodeIndexModel", "merge", "(II)I"⟩, prog_10_method_34_code, 3, (some .int), [])
theorem mdM_merge : zMd mM_merge 2 := ⟨(zt6 (i := 199) rfl), (zt1 (i := 9) rfl), ⟨by decide +kernel, by decide +kernel, by decide +kernel⟩, by decide +kernel, by decide +kernel⟩
theorem miM_merge : zMi mM_merge := (zt6 (i := 197) rfl)
theorem mvM_merge : zMv mM_merge := (zt6 (i := 198) rfl)
def mM_mergeIt : zM := (⟨"PrefixCodeIndexModel", "mergeIt", "(II)I"⟩, prog_10_method_33_code, 8, (some .int), [])
theorem mdM_mergeIt : zMd mM_mergeIt 2 := ⟨(zt6 (i := 203) rfl), (zt1 (i := 9) rfl), ⟨by decide +kernel, by decide +kernel, by decide +kernel⟩, by decide +kernel, by decide +kernel⟩
theorem miM_mergeIt : zMi mM_mergeIt := (zt6 (i := 202) rfl)
theorem mvM_mergeIt : zMv mM_mergeIt := (zt0 (i := 46) rfl)
def mM_mergedTotal : zM := (⟨"PrefixCodeIndexModel", "mergedTotal", "()I"⟩, prog_10_method_76_code, 1, (some .int), [])
theorem mdM_mergedTotal : zMd mM_mergedTotal 0 := ⟨(zt7 (i := 169) rfl), (zt1 (i := 9) rfl), ⟨by decide +kernel, by decide +kernel, by decide +kernel⟩, by decide +kernel, by decide +kernel⟩
theorem miM_mergedTotal : zMi mM_mergedTotal := (zt7 (i := 167) rfl)
theorem mvM_mergedTotal : zMv mM_mergedTotal := (zt7 (i := 168) rfl)
def mM_mostSimilar : zM := (⟨"PrefixCodeIndexModel", "mostSimilar", "(I)I"⟩, prog_10_method_70_code, 6, (some .int), [])
theorem mdM_mostSimilar : zMd mM_mostSimilar 1 := ⟨(zt7 (i := 140) rfl), (zt1 (i := 9) rfl), ⟨by decide +kernel, by decide +kernel, by decide +kernel⟩, by decide +kernel, by decide +kernel⟩
theorem miM_mostSimilar : zMi mM_mostSimilar := (zt7 (i := 138) rfl)
theorem mvM_mostSimilar : zMv mM_mostSimilar := (zt7 (i := 139) rfl)
def mM_nextDigits : zM := (⟨"PrefixCodeIndexModel", "nextDigits", "(II)I"⟩, prog_10_method_63_code, 5, (some .int), [])
theorem mdM_nextDigits : zMd mM_nextDigits 2 := ⟨(zt7 (i := 110) rfl), (zt1 (i := 9) rfl), ⟨by decide +kernel, by decide +kernel, by decide +kernel⟩, by decide +kernel, by decide +kernel⟩
theorem miM_nextDigits : zMi mM_nextDigits := (zt7 (i := 108) rfl)
theorem mvM_nextDigits : zMv mM_nextDigits := (zt7 (i := 109) rfl)
def mM_number : zM := (⟨"PrefixCodeIndexModel", "number", "()I"⟩, prog_10_method_91_code, 2, (some .int), [])
theorem mdM_number : zMd mM_number 0 := ⟨(zt8 (i := 6) rfl), (zt1 (i := 9) rfl), ⟨by decide +kernel, by decide +kernel, by decide +kernel⟩, by decide +kernel, by decide +kernel⟩
theorem miM_number : zMi mM_number := (zt8 (i := 5) rfl)
theorem mvM_number : zMv mM_number := (zt0 (i := 68) rfl)
def mM_numberBehind : zM := (⟨"PrefixCodeIndexModel", "numberBehind", "()I"⟩, prog_10_method_92_code, 1, (some .int), [])
theorem mdM_numberBehind : zMd mM_numberBehind 0 := ⟨(zt8 (i := 10) rfl), (zt1 (i := 9) rfl), ⟨by decide +kernel, by decide +kernel, by decide +kernel⟩, by decide +kernel, by decide +kernel⟩
theorem miM_numberBehind : zMi mM_numberBehind := (zt8 (i := 9) rfl)
theorem mvM_numberBehind : zMv mM_numberBehind := (zt0 (i := 69) rfl)
def mM_ofEntry : zM := (⟨"PrefixCodeIndexModel", "ofEntry", "(II)I"⟩, prog_10_method_46_code, 3, (some .int), [])
theorem mdM_ofEntry : zMd mM_ofEntry 2 := ⟨(zt7 (i := 29) rfl), (zt1 (i := 9) rfl), ⟨by decide +kernel, by decide +kernel, by decide +kernel⟩, by decide +kernel, by decide +kernel⟩
theorem miM_ofEntry : zMi mM_ofEntry := (zt7 (i := 28) rfl)
theorem mvM_ofEntry : zMv mM_ofEntry := (zt0 (i := 54) rfl)
def mM_pass : zM := (⟨"PrefixCodeIndexModel", "pass", "(I)I"⟩, prog_10_method_42_code, 2, (some .int), [])
theorem mdM_pass : zMd mM_pass 1 := ⟨(zt7 (i := 0) rfl), (zt1 (i := 9) rfl), ⟨by decide +kernel, by decide +kernel, by decide +kernel⟩, by decide +kernel, by decide +kernel⟩
theorem miM_pass : zMi mM_pass := (zt6 (i := 238) rfl)
theorem mvM_pass : zMv mM_pass := (zt6 (i := 239) rfl)
def mM_passIt : zM := (⟨"PrefixCodeIndexModel", "passIt", "(I)I"⟩, prog_10_method_41_code, 5, (some .int), [])
theorem mdM_passIt : zMd mM_passIt 1 := ⟨(zt7 (i := 4) rfl), (zt1 (i := 9) rfl), ⟨by decide +kernel, by decide +kernel, by decide +kernel⟩, by decide +kernel, by decide +kernel⟩
theorem miM_passIt : zMi mM_passIt := (zt7 (i := 3) rfl)
theorem mvM_passIt : zMv mM_passIt := (zt0 (i := 51) rfl)
def mM_power : zM := (⟨"PrefixCodeIndexModel", "power", "(I)I"⟩, prog_10_method_9_code, 3, (some .int), [])
theorem mdM_power : zMd mM_power 1 := ⟨(zt6 (i := 163) rfl), (zt1 (i := 9) rfl), ⟨by decide +kernel, by decide +kernel, by decide +kernel⟩, by decide +kernel, by decide +kernel⟩
theorem msM_power : zMs mM_power := (zt6 (i := 162) rfl)
def mM_puts : zM := (⟨"PrefixCodeIndexModel", "puts", "(II)V"⟩, prog_10_method_21_code, 5, none, [])
theorem mdM_puts : zMd mM_puts 2 := ⟨(zt6 (i := 167) rfl), (zt1 (i := 9) rfl), ⟨by decide +kernel, by decide +kernel, by decide +kernel⟩, by decide +kernel, by decide +kernel⟩
theorem miM_puts : zMi mM_puts := (zt6 (i := 166) rfl)
theorem mvM_puts : zMv mM_puts := (zt0 (i := 41) rfl)
def mM_readArguments : zM := (⟨"PrefixCodeIndexModel", "readArguments", "(II)V"⟩, prog_10_method_94_code, 4, none, [])
theorem mdM_readArguments : zMd mM_readArguments 2 := ⟨(zt7 (i := 232) rfl), (zt1 (i := 9) rfl), ⟨by decide +kernel, by decide +kernel, by decide +kernel⟩, by decide +kernel, by decide +kernel⟩
theorem miM_readArguments : zMi mM_readArguments := (zt7 (i := 231) rfl)
theorem mvM_readArguments : zMv mM_readArguments := (zt0 (i := 65) rfl)
def mM_readCommand : zM := (⟨"PrefixCodeIndexModel", "readCommand", "()V"⟩, prog_10_method_95_code, 4, none, [])
theorem mdM_readCommand : zMd mM_readCommand 0 := ⟨(zt7 (i := 224) rfl), (zt1 (i := 9) rfl), ⟨by decide +kernel, by decide +kernel, by decide +kernel⟩, by decide +kernel, by decide +kernel⟩
theorem miM_readCommand : zMi mM_readCommand := (zt7 (i := 223) rfl)
theorem mvM_readCommand : zMv mM_readCommand := (zt0 (i := 63) rfl)
def mM_removeCode : zM := (⟨"PrefixCodeIndexModel", "removeCode", "(II)I"⟩, prog_10_method_27_code, 3, (some .int), [])
theorem mdM_removeCode : zMd mM_removeCode 2 := ⟨(zt6 (i := 171) rfl), (zt1 (i := 9) rfl), ⟨by decide +kernel, by decide +kernel, by decide +kernel⟩, by decide +kernel, by decide +kernel⟩
theorem miM_removeCode : zMi mM_removeCode := (zt6 (i := 169) rfl)
theorem mvM_removeCode : zMv mM_removeCode := (zt6 (i := 170) rfl)
def mM_removeEntry : zM := (⟨"PrefixCodeIndexModel", "removeEntry", "(I)I"⟩, prog_10_method_29_code, 2, (some .int), [])
theorem mdM_removeEntry : zMd mM_removeEntry 1 := ⟨(zt6 (i := 179) rfl), (zt1 (i := 9) rfl), ⟨by decide +kernel, by decide +kernel, by decide +kernel⟩, by decide +kernel, by decide +kernel⟩
theorem miM_removeEntry : zMi mM_removeEntry := (zt6 (i := 177) rfl)
theorem mvM_removeEntry : zMv mM_removeEntry := (zt6 (i := 178) rfl)
def mM_removedTotal : zM := (⟨"PrefixCodeIndexModel", "removedTotal", "()I"⟩, prog_10_method_75_code, 1, (some .int), [])
theorem mdM_removedTotal : zMd mM_removedTotal 0 := ⟨(zt7 (i := 165) rfl), (zt1 (i := 9) rfl), ⟨by decide +kernel, by decide +kernel, by decide +kernel⟩, by decide +kernel, by decide +kernel⟩
theorem miM_removedTotal : zMi mM_removedTotal := (zt7 (i := 163) rfl)
theorem mvM_removedTotal : zMv mM_removedTotal := (zt7 (i := 164) rfl)
def mM_restore : zM := (⟨"PrefixCodeIndexModel", "restore", "()I"⟩, prog_10_method_103_code, 2, (some .int), [])
theorem mdM_restore : zMd mM_restore 0 := ⟨(zt8 (i := 42) rfl), (zt1 (i := 9) rfl), ⟨by decide +kernel, by decide +kernel, by decide +kernel⟩, by decide +kernel, by decide +kernel⟩
theorem miM_restore : zMi mM_restore := (zt8 (i := 40) rfl)
theorem mvM_restore : zMv mM_restore := (zt8 (i := 41) rfl)
def mM_result : zM := (⟨"PrefixCodeIndexModel", "result", "(III)I"⟩, prog_10_method_16_code, 9, (some .int), [])
theorem mdM_result : zMd mM_result 3 := ⟨(zt7 (i := 90) rfl), (zt1 (i := 9) rfl), ⟨by decide +kernel, by decide +kernel, by decide +kernel⟩, by decide +kernel, by decide +kernel⟩
theorem miM_result : zMi mM_result := (zt7 (i := 89) rfl)
theorem mvM_result : zMv mM_result := (zt0 (i := 56) rfl)
def mM_resultAt : zM := (⟨"PrefixCodeIndexModel", "resultAt", "(III)I"⟩, prog_10_method_60_code, 5, (some .int), [])
theorem mdM_resultAt : zMd mM_resultAt 3 := ⟨(zt7 (i := 86) rfl), (zt1 (i := 9) rfl), ⟨by decide +kernel, by decide +kernel, by decide +kernel⟩, by decide +kernel, by decide +kernel⟩
theorem miM_resultAt : zMi mM_resultAt := (zt7 (i := 84) rfl)
theorem mvM_resultAt : zMv mM_resultAt := (zt7 (i := 85) rfl)
def mM_resultCount : zM := (⟨"PrefixCodeIndexModel", "resultCount", "(II)I"⟩, prog_10_method_58_code, 3, (some .int), [])
theorem mdM_resultCount : zMd mM_resultCount 2 := ⟨(zt7 (i := 73) rfl), (zt1 (i := 9) rfl), ⟨by decide +kernel, by decide +kernel, by decide +kernel⟩, by decide +kernel, by decide +kernel⟩
theorem miM_resultCount : zMi mM_resultCount := (zt7 (i := 71) rfl)
theorem mvM_resultCount : zMv mM_resultCount := (zt7 (i := 72) rfl)
def mM_resultCountByScan : zM := (⟨"PrefixCodeIndexModel", "resultCountByScan", "(II)I"⟩, prog_10_method_59_code, 3, (some .int), [])
theorem mdM_resultCountByScan : zMd mM_resultCountByScan 2 := ⟨(zt7 (i := 81) rfl), (zt1 (i := 9) rfl), ⟨by decide +kernel, by decide +kernel, by decide +kernel⟩, by decide +kernel, by decide +kernel⟩
theorem miM_resultCountByScan : zMi mM_resultCountByScan := (zt7 (i := 79) rfl)
theorem mvM_resultCountByScan : zMv mM_resultCountByScan := (zt7 (i := 80) rfl)
def mM_results : zM := (⟨"PrefixCodeIndexModel", "results", "(II)I"⟩, prog_10_method_15_code, 5, (some .int), [])
theorem mdM_results : zMd mM_results 2 := ⟨(zt7 (i := 77) rfl), (zt1 (i := 9) rfl), ⟨by decide +kernel, by decide +kernel, by decide +kernel⟩, by decide +kernel, by decide +kernel⟩
theorem miM_results : zMi mM_results := (zt7 (i := 76) rfl)
theorem mvM_results : zMv mM_results := (zt0 (i := 55) rfl)
def mM_run : zM := (⟨"PrefixCodeIndexModel", "run", "()I"⟩, prog_10_method_97_code, 4, (some .int), [])
theorem mdM_run : zMd mM_run 0 := ⟨(zt7 (i := 220) rfl), (zt1 (i := 9) rfl), ⟨by decide +kernel, by decide +kernel, by decide +kernel⟩, by decide +kernel, by decide +kernel⟩
theorem miM_run : zMi mM_run := (zt7 (i := 218) rfl)
theorem mvM_run : zMv mM_run := (zt7 (i := 219) rfl)
def mM_save : zM := (⟨"PrefixCodeIndexModel", "save", "()I"⟩, prog_10_method_102_code, 2, (some .int), [])
theorem mdM_save : zMd mM_save 0 := ⟨(zt8 (i := 38) rfl), (zt1 (i := 9) rfl), ⟨by decide +kernel, by decide +kernel, by decide +kernel⟩, by decide +kernel, by decide +kernel⟩
theorem miM_save : zMi mM_save := (zt8 (i := 36) rfl)
theorem mvM_save : zMv mM_save := (zt8 (i := 37) rfl)
def mM_score : zM := (⟨"PrefixCodeIndexModel", "score", "(III)I"⟩, prog_10_method_14_code, 5, (some .int), [])
theorem mdM_score : zMd mM_score 3 := ⟨(zt7 (i := 94) rfl), (zt1 (i := 9) rfl), ⟨by decide +kernel, by decide +kernel, by decide +kernel⟩, by decide +kernel, by decide +kernel⟩
theorem miM_score : zMi mM_score := (zt7 (i := 93) rfl)
theorem mvM_score : zMv mM_score := (zt0 (i := 57) rfl)
def mM_scoreOf : zM := (⟨"PrefixCodeIndexModel", "scoreOf", "(III)I"⟩, prog_10_method_61_code, 4, (some .int), [])
theorem mdM_scoreOf : zMd mM_scoreOf 3 := ⟨(zt7 (i := 98) rfl), (zt1 (i := 9) rfl), ⟨by decide +kernel, by decide +kernel, by decide +kernel⟩, by decide +kernel, by decide +kernel⟩
theorem miM_scoreOf : zMi mM_scoreOf := (zt7 (i := 96) rfl)
theorem mvM_scoreOf : zMv mM_scoreOf := (zt7 (i := 97) rfl)
def mM_search : zM := (⟨"PrefixCodeIndexModel", "search", "(II)I"⟩, prog_10_method_40_code, 3, (some .int), [])
theorem mdM_search : zMd mM_search 2 := ⟨(zt6 (i := 229) rfl), (zt1 (i := 9) rfl), ⟨by decide +kernel, by decide +kernel, by decide +kernel⟩, by decide +kernel, by decide +kernel⟩
theorem miM_search : zMi mM_search := (zt6 (i := 227) rfl)
theorem mvM_search : zMv mM_search := (zt6 (i := 228) rfl)
def mM_searchIt : zM := (⟨"PrefixCodeIndexModel", "searchIt", "(II)I"⟩, prog_10_method_39_code, 5, (some .int), [])
theorem mdM_searchIt : zMd mM_searchIt 2 := ⟨(zt6 (i := 233) rfl), (zt1 (i := 9) rfl), ⟨by decide +kernel, by decide +kernel, by decide +kernel⟩, by decide +kernel, by decide +kernel⟩
theorem miM_searchIt : zMi mM_searchIt := (zt6 (i := 232) rfl)
theorem mvM_searchIt : zMv mM_searchIt := (zt0 (i := 50) rfl)
def mM_segmentCount : zM := (⟨"PrefixCodeIndexModel", "segmentCount", "()I"⟩, prog_10_method_56_code, 1, (some .int), [])
theorem mdM_segmentCount : zMd mM_segmentCount 0 := ⟨(zt7 (i := 65) rfl), (zt1 (i := 9) rfl), ⟨by decide +kernel, by decide +kernel, by decide +kernel⟩, by decide +kernel, by decide +kernel⟩
theorem miM_segmentCount : zMi mM_segmentCount := (zt7 (i := 63) rfl)
theorem mvM_segmentCount : zMv mM_segmentCount := (zt7 (i := 64) rfl)
def mM_segmentIt : zM := (⟨"PrefixCodeIndexModel", "segmentIt", "()I"⟩, prog_10_method_35_code, 1, (some .int), [])
theorem mdM_segmentIt : zMd mM_segmentIt 0 := ⟨(zt6 (i := 217) rfl), (zt1 (i := 9) rfl), ⟨by decide +kernel, by decide +kernel, by decide +kernel⟩, by decide +kernel, by decide +kernel⟩
theorem miM_segmentIt : zMi mM_segmentIt := (zt6 (i := 216) rfl)
theorem mvM_segmentIt : zMv mM_segmentIt := (zt0 (i := 48) rfl)
def mM_segmentOf : zM := (⟨"PrefixCodeIndexModel", "segmentOf", "(I)I"⟩, prog_10_method_51_code, 2, (some .int), [])
theorem mdM_segmentOf : zMd mM_segmentOf 1 := ⟨(zt7 (i := 45) rfl), (zt1 (i := 9) rfl), ⟨by decide +kernel, by decide +kernel, by decide +kernel⟩, by decide +kernel, by decide +kernel⟩
theorem miM_segmentOf : zMi mM_segmentOf := (zt7 (i := 43) rfl)
theorem mvM_segmentOf : zMv mM_segmentOf := (zt7 (i := 44) rfl)
def mM_sharedCodes : zM := (⟨"PrefixCodeIndexModel", "sharedCodes", "(II)I"⟩, prog_10_method_69_code, 3, (some .int), [])
theorem mdM_sharedCodes : zMd mM_sharedCodes 2 := ⟨(zt7 (i := 136) rfl), (zt1 (i := 9) rfl), ⟨by decide +kernel, by decide +kernel, by decide +kernel⟩, by decide +kernel, by decide +kernel⟩
theorem miM_sharedCodes : zMi mM_sharedCodes := (zt7 (i := 134) rfl)
theorem mvM_sharedCodes : zMv mM_sharedCodes := (zt7 (i := 135) rfl)
def mM_sharedDigits : zM := (⟨"PrefixCodeIndexModel", "sharedDigits", "(I)I"⟩, prog_10_method_64_code, 3, (some .int), [])
theorem mdM_sharedDigits : zMd mM_sharedDigits 1 := ⟨(zt7 (i := 114) rfl), (zt1 (i := 9) rfl), ⟨by decide +kernel, by decide +kernel, by decide +kernel⟩, by decide +kernel, by decide +kernel⟩
theorem miM_sharedDigits : zMi mM_sharedDigits := (zt7 (i := 112) rfl)
theorem mvM_sharedDigits : zMv mM_sharedDigits := (zt7 (i := 113) rfl)
def mM_sharedDigitsByScan : zM := (⟨"PrefixCodeIndexModel", "sharedDigitsByScan", "(I)I"⟩, prog_10_method_65_code, 2, (some .int), [])
theorem mdM_sharedDigitsByScan : zMd mM_sharedDigitsByScan 1 := ⟨(zt7 (i := 118) rfl), (zt1 (i := 9) rfl), ⟨by decide +kernel, by decide +kernel, by decide +kernel⟩, by decide +kernel, by decide +kernel⟩
theorem miM_sharedDigitsByScan : zMi mM_sharedDigitsByScan := (zt7 (i := 116) rfl)
theorem mvM_sharedDigitsByScan : zMv mM_sharedDigitsByScan := (zt7 (i := 117) rfl)
def mM_sign : zM := (⟨"PrefixCodeIndexModel", "sign", "(I)V"⟩, prog_10_method_81_code, 2, none, [])
theorem mdM_sign : zMd mM_sign 1 := ⟨(zt7 (i := 197) rfl), (zt1 (i := 9) rfl), ⟨by decide +kernel, by decide +kernel, by decide +kernel⟩, by decide +kernel, by decide +kernel⟩
theorem miM_sign : zMi mM_sign := (zt7 (i := 196) rfl)
theorem mvM_sign : zMv mM_sign := (zt0 (i := 61) rfl)
def mM_startSegment : zM := (⟨"PrefixCodeIndexModel", "startSegment", "()I"⟩, prog_10_method_36_code, 1, (some .int), [])
theorem mdM_startSegment : zMd mM_startSegment 0 := ⟨(zt6 (i := 213) rfl), (zt1 (i := 9) rfl), ⟨by decide +kernel, by decide +kernel, by decide +kernel⟩, by decide +kernel, by decide +kernel⟩
theorem miM_startSegment : zMi mM_startSegment := (zt6 (i := 211) rfl)
theorem mvM_startSegment : zMv mM_startSegment := (zt6 (i := 212) rfl)
def mM_starts : zM := (⟨"PrefixCodeIndexModel", "starts", "()V"⟩, prog_10_method_5_code, 2, none, [])
theorem mdM_starts : zMd mM_starts 0 := ⟨(zt6 (i := 117) rfl), (zt1 (i := 9) rfl), ⟨by decide +kernel, by decide +kernel, by decide +kernel⟩, by decide +kernel, by decide +kernel⟩
theorem miM_starts : zMi mM_starts := (zt6 (i := 116) rfl)
theorem mvM_starts : zMv mM_starts := (zt0 (i := 33) rfl)
def mM_throwing : zM := (⟨"PrefixCodeIndexModel", "throwing", "(I)I"⟩, prog_10_method_3_code, 2, (some .int), [])
theorem mdM_throwing : zMd mM_throwing 1 := ⟨(zt6 (i := 129) rfl), (zt1 (i := 9) rfl), ⟨by decide +kernel, by decide +kernel, by decide +kernel⟩, by decide +kernel, by decide +kernel⟩
theorem miM_throwing : zMi mM_throwing := (zt6 (i := 128) rfl)
theorem mvM_throwing : zMv mM_throwing := (zt0 (i := 35) rfl)
def mM_thrown : zM := (⟨"PrefixCodeIndexModel", "thrown", "()I"⟩, prog_10_method_2_code, 1, (some .int), [])
theorem mdM_thrown : zMd mM_thrown 0 := ⟨(zt6 (i := 109) rfl), (zt1 (i := 9) rfl), ⟨by decide +kernel, by decide +kernel, by decide +kernel⟩, by decide +kernel, by decide +kernel⟩
theorem miM_thrown : zMi mM_thrown := (zt6 (i := 107) rfl)
theorem mvM_thrown : zMv mM_thrown := (zt6 (i := 108) rfl)
def mM_total : zM := (⟨"PrefixCodeIndexModel", "total", "(I)I"⟩, prog_10_method_43_code, 2, (some .int), [])
theorem mdM_total : zMd mM_total 1 := ⟨(zt7 (i := 17) rfl), (zt1 (i := 9) rfl), ⟨by decide +kernel, by decide +kernel, by decide +kernel⟩, by decide +kernel, by decide +kernel⟩
theorem miM_total : zMi mM_total := (zt7 (i := 16) rfl)
theorem mvM_total : zMv mM_total := (zt0 (i := 53) rfl)
def mM_touch : zM := (⟨"PrefixCodeIndexModel", "touch", "(I)I"⟩, prog_10_method_31_code, 2, (some .int), [])
theorem mdM_touch : zMd mM_touch 1 := ⟨(zt6 (i := 191) rfl), (zt1 (i := 9) rfl), ⟨by decide +kernel, by decide +kernel, by decide +kernel⟩, by decide +kernel, by decide +kernel⟩
theorem miM_touch : zMi mM_touch := (zt6 (i := 189) rfl)
theorem mvM_touch : zMv mM_touch := (zt6 (i := 190) rfl)
def mM_touchIt : zM := (⟨"PrefixCodeIndexModel", "touchIt", "(I)I"⟩, prog_10_method_30_code, 4, (some .int), [])
theorem mdM_touchIt : zMd mM_touchIt 1 := ⟨(zt6 (i := 195) rfl), (zt1 (i := 9) rfl), ⟨by decide +kernel, by decide +kernel, by decide +kernel⟩, by decide +kernel, by decide +kernel⟩
theorem miM_touchIt : zMi mM_touchIt := (zt6 (i := 194) rfl)
theorem mvM_touchIt : zMv mM_touchIt := (zt0 (i := 45) rfl)
def mM_uncodeIt : zM := (⟨"PrefixCodeIndexModel", "uncodeIt", "(II)I"⟩, prog_10_method_26_code, 7, (some .int), [])
theorem mdM_uncodeIt : zMd mM_uncodeIt 2 := ⟨(zt6 (i := 175) rfl), (zt1 (i := 9) rfl), ⟨by decide +kernel, by decide +kernel, by decide +kernel⟩, by decide +kernel, by decide +kernel⟩
theorem miM_uncodeIt : zMi mM_uncodeIt := (zt6 (i := 174) rfl)
theorem mvM_uncodeIt : zMv mM_uncodeIt := (zt0 (i := 42) rfl)
def mM_undo : zM := (⟨"PrefixCodeIndexModel", "undo", "()I"⟩, prog_10_method_101_code, 2, (some .int), [])
theorem mdM_undo : zMd mM_undo 0 := ⟨(zt8 (i := 34) rfl), (zt1 (i := 9) rfl), ⟨by decide +kernel, by decide +kernel, by decide +kernel⟩, by decide +kernel, by decide +kernel⟩
theorem miM_undo : zMi mM_undo := (zt8 (i := 32) rfl)
theorem mvM_undo : zMv mM_undo := (zt8 (i := 33) rfl)
def mM_undoableCount : zM := (⟨"PrefixCodeIndexModel", "undoableCount", "()I"⟩, prog_10_method_100_code, 1, (some .int), [])
theorem mdM_undoableCount : zMd mM_undoableCount 0 := ⟨(zt8 (i := 30) rfl), (zt1 (i := 9) rfl), ⟨by decide +kernel, by decide +kernel, by decide +kernel⟩, by decide +kernel, by decide +kernel⟩
theorem miM_undoableCount : zMi mM_undoableCount := (zt8 (i := 28) rfl)
theorem mvM_undoableCount : zMv mM_undoableCount := (zt8 (i := 29) rfl)
def mM_weightOf : zM := (⟨"PrefixCodeIndexModel", "weightOf", "(I)I"⟩, prog_10_method_47_code, 2, (some .int), [])
theorem mdM_weightOf : zMd mM_weightOf 1 := ⟨(zt7 (i := 25) rfl), (zt1 (i := 9) rfl), ⟨by decide +kernel, by decide +kernel, by decide +kernel⟩, by decide +kernel, by decide +kernel⟩
theorem miM_weightOf : zMi mM_weightOf := (zt7 (i := 23) rfl)
theorem mvM_weightOf : zMv mM_weightOf := (zt7 (i := 24) rfl)
def mM_writes : zM := (⟨"PrefixCodeIndexModel", "writes", "(II)V"⟩, prog_10_method_83_code, 3, none, [])
theorem mdM_writes : zMd mM_writes 2 := ⟨(zt7 (i := 193) rfl), (zt1 (i := 9) rfl), ⟨by decide +kernel, by decide +kernel, by decide +kernel⟩, by decide +kernel, by decide +kernel⟩
theorem miM_writes : zMi mM_writes := (zt7 (i := 192) rfl)
theorem mvM_writes : zMv mM_writes := (zt0 (i := 60) rfl)
def mM_writesNumber : zM := (⟨"PrefixCodeIndexModel", "writesNumber", "(I)V"⟩, prog_10_method_82_code, 4, none, [])
theorem mdM_writesNumber : zMd mM_writesNumber 1 := ⟨(zt7 (i := 201) rfl), (zt1 (i := 9) rfl), ⟨by decide +kernel, by decide +kernel, by decide +kernel⟩, by decide +kernel, by decide +kernel⟩
theorem miM_writesNumber : zMi mM_writesNumber := (zt7 (i := 200) rfl)
theorem mvM_writesNumber : zMv mM_writesNumber := (zt0 (i := 62) rfl)
def mN_abs : zM := (⟨"java/lang/Math", "abs", "(I)I"⟩, prog_20_method_59_code, 1, (some .int), [])
def mN_max : zM := (⟨"java/lang/Math", "max", "(II)I"⟩, prog_20_method_65_code, 2, (some .int), [])
def mN_min : zM := (⟨"java/lang/Math", "min", "(II)I"⟩, prog_20_method_69_code, 2, (some .int), [])
def mP_add : zM := (⟨"PrefixCodeIndex$Program", "add", "(C)I"⟩, prog_6_method_2_code, 2, (some .int), [])
theorem mdP_add : zMd mP_add 1 := ⟨(zt5 (i := 108) rfl), (zt1 (i := 7) rfl), ⟨by decide +kernel, by decide +kernel, by decide +kernel⟩, by decide +kernel, by decide +kernel⟩
theorem miP_add : zMi mP_add := (zt5 (i := 106) rfl)
theorem mvP_add : zMv mP_add := (zt5 (i := 107) rfl)
def mP_clear : zM := (⟨"PrefixCodeIndex$Program", "clear", "()V"⟩, prog_6_method_3_code, 1, none, [])
theorem mdP_clear : zMd mP_clear 0 := ⟨(zt5 (i := 225) rfl), (zt1 (i := 7) rfl), ⟨by decide +kernel, by decide +kernel, by decide +kernel⟩, by decide +kernel, by decide +kernel⟩
theorem miP_clear : zMi mP_clear := (zt5 (i := 223) rfl)
theorem mvP_clear : zMv mP_clear := (zt5 (i := 224) rfl)
def mP_digitStands : zM := (⟨"PrefixCodeIndex$Program", "digitStands", "()Z"⟩, prog_6_method_15_code, 1, (some .boolean), [])
theorem mdP_digitStands : zMd mP_digitStands 0 := ⟨(zt5 (i := 213) rfl), (zt1 (i := 7) rfl), ⟨by decide +kernel, by decide +kernel, by decide +kernel⟩, by decide +kernel, by decide +kernel⟩
theorem miP_digitStands : zMi mP_digitStands := (zt5 (i := 212) rfl)
theorem mvP_digitStands : zMv mP_digitStands := (zt0 (i := 29) rfl)
def mP_init : zM := (⟨"PrefixCodeIndex$Program", "<init>", "()V"⟩, prog_6_method_1_code, 1, none, [])
theorem mdP_init : zMd mP_init 0 := ⟨(zt1 (i := 177) rfl), (zt1 (i := 7) rfl), ⟨by decide +kernel, by decide +kernel, by decide +kernel⟩, by decide +kernel, by decide +kernel⟩
theorem miP_init : zMi mP_init := (zt1 (i := 176) rfl)
def mP_matchedLetters : zM := (⟨"PrefixCodeIndex$Program", "matchedLetters", "(Ljava/lang/String;)I"⟩, prog_6_method_7_code, 3, (some .int), [])
theorem mdP_matchedLetters : zMd mP_matchedLetters 1 := ⟨(zt5 (i := 144) rfl), (zt1 (i := 7) rfl), ⟨by decide +kernel, by decide +kernel, by decide +kernel⟩, by decide +kernel, by decide +kernel⟩
theorem miP_matchedLetters : zMi mP_matchedLetters := (zt5 (i := 143) rfl)
theorem mvP_matchedLetters : zMv mP_matchedLetters := (zt0 (i := 24) rfl)
def mP_read : zM := (⟨"PrefixCodeIndex$Program", "read", "()I"⟩, prog_6_method_4_code, 1, (some .int), [])
theorem mdP_read : zMd mP_read 0 := ⟨(zt5 (i := 119) rfl), (zt1 (i := 7) rfl), ⟨by decide +kernel, by decide +kernel, by decide +kernel⟩, by decide +kernel, by decide +kernel⟩
theorem miP_read : zMi mP_read := (zt5 (i := 117) rfl)
theorem mvP_read : zMv mP_read := (zt5 (i := 118) rfl)
def mP_readArguments : zM := (⟨"PrefixCodeIndex$Program", "readArguments", "(I)Z"⟩, prog_6_method_9_code, 2, (some .boolean), [])
theorem mdP_readArguments : zMd mP_readArguments 1 := ⟨(zt5 (i := 197) rfl), (zt1 (i := 7) rfl), ⟨by decide +kernel, by decide +kernel, by decide +kernel⟩, by decide +kernel, by decide +kernel⟩
theorem miP_readArguments : zMi mP_readArguments := (zt5 (i := 196) rfl)
theorem mvP_readArguments : zMv mP_readArguments := (zt0 (i := 25) rfl)
def mP_readCommand : zM := (⟨"PrefixCodeIndex$Program", "readCommand", "()Z"⟩, prog_6_method_5_code, 2, (some .boolean), [])
theorem mdP_readCommand : zMd mP_readCommand 0 := ⟨(zt5 (i := 123) rfl), (zt1 (i := 7) rfl), ⟨by decide +kernel, by decide +kernel, by decide +kernel⟩, by decide +kernel, by decide +kernel⟩
theorem miP_readCommand : zMi mP_readCommand := (zt5 (i := 122) rfl)
theorem mvP_readCommand : zMv mP_readCommand := (zt0 (i := 22) rfl)
def mP_readFirst : zM := (⟨"PrefixCodeIndex$Program", "readFirst", "(I)Z"⟩, prog_6_method_10_code, 2, (some .boolean), [])
theorem mdP_readFirst : zMd mP_readFirst 1 := ⟨(zt5 (i := 201) rfl), (zt1 (i := 7) rfl), ⟨by decide +kernel, by decide +kernel, by decide +kernel⟩, by decide +kernel, by decide +kernel⟩
theorem miP_readFirst : zMi mP_readFirst := (zt5 (i := 200) rfl)
theorem mvP_readFirst : zMv mP_readFirst := (zt0 (i := 26) rfl)
def mP_readNumber : zM := (⟨"PrefixCodeIndex$Program", "readNumber", "(I)Z"⟩, prog_6_method_13_code, 2, (some .boolean), [])
theorem mdP_readNumber : zMd mP_readNumber 1 := ⟨(zt5 (i := 205) rfl), (zt1 (i := 7) rfl), ⟨by decide +kernel, by decide +kernel, by decide +kernel⟩, by decide +kernel, by decide +kernel⟩
theorem miP_readNumber : zMi mP_readNumber := (zt5 (i := 204) rfl)
theorem mvP_readNumber : zMv mP_readNumber := (zt0 (i := 27) rfl)
def mP_readPrefix : zM := (⟨"PrefixCodeIndex$Program", "readPrefix", "()Z"⟩, prog_6_method_12_code, 1, (some .boolean), [])
theorem mdP_readPrefix : zMd mP_readPrefix 0 := ⟨(zt5 (i := 221) rfl), (zt1 (i := 7) rfl), ⟨by decide +kernel, by decide +kernel, by decide +kernel⟩, by decide +kernel, by decide +kernel⟩
theorem miP_readPrefix : zMi mP_readPrefix := (zt5 (i := 220) rfl)
theorem mvP_readPrefix : zMv mP_readPrefix := (zt0 (i := 31) rfl)
def mP_readSecond : zM := (⟨"PrefixCodeIndex$Program", "readSecond", "()Z"⟩, prog_6_method_11_code, 1, (some .boolean), [])
theorem mdP_readSecond : zMd mP_readSecond 0 := ⟨(zt5 (i := 217) rfl), (zt1 (i := 7) rfl), ⟨by decide +kernel, by decide +kernel, by decide +kernel⟩, by decide +kernel, by decide +kernel⟩
theorem miP_readSecond : zMi mP_readSecond := (zt5 (i := 216) rfl)
theorem mvP_readSecond : zMv mP_readSecond := (zt0 (i := 30) rfl)
def mP_readWord : zM := (⟨"PrefixCodeIndex$Program", "readWord", "()I"⟩, prog_6_method_6_code, 5, (some .int), [])
theorem mdP_readWord : zMd mP_readWord 0 := ⟨(zt5 (i := 127) rfl), (zt1 (i := 7) rfl), ⟨by decide +kernel, by decide +kernel, by decide +kernel⟩, by decide +kernel, by decide +kernel⟩
theorem miP_readWord : zMi mP_readWord := (zt5 (i := 126) rfl)
theorem mvP_readWord : zMv mP_readWord := (zt0 (i := 23) rfl)
def mP_stands : zM := (⟨"PrefixCodeIndex$Program", "stands", "(C)Z"⟩, prog_6_method_14_code, 2, (some .boolean), [])
theorem mdP_stands : zMd mP_stands 1 := ⟨(zt5 (i := 209) rfl), (zt1 (i := 7) rfl), ⟨by decide +kernel, by decide +kernel, by decide +kernel⟩, by decide +kernel, by decide +kernel⟩
theorem miP_stands : zMi mP_stands := (zt5 (i := 208) rfl)
theorem mvP_stands : zMv mP_stands := (zt0 (i := 28) rfl)
def mP_wordOf : zM := (⟨"PrefixCodeIndex$Program", "wordOf", "(I)Ljava/lang/String;"⟩, prog_6_method_8_code, 1, (some (.object "java/lang/String")), [])
theorem mdP_wordOf : zMd mP_wordOf 1 := ⟨(zt5 (i := 130) rfl), (zt1 (i := 7) rfl), ⟨by decide +kernel, by decide +kernel, by decide +kernel⟩, by decide +kernel, by decide +kernel⟩
theorem msP_wordOf : zMs mP_wordOf := (zt5 (i := 129) rfl)
def mR_init : zM := (⟨"PrefixCodeIndex$Ranking", "<init>", "()V"⟩, prog_7_method_1_code, 1, none, [])
theorem mdR_init : zMd mR_init 0 := ⟨(zt1 (i := 158) rfl), (zt1 (i := 6) rfl), ⟨by decide +kernel, by decide +kernel, by decide +kernel⟩, by decide +kernel, by decide +kernel⟩
theorem miR_init : zMi mR_init := (zt1 (i := 157) rfl)
def mR_order : zM := (⟨"PrefixCodeIndex$Ranking", "order", "(LPrefixCodeIndex$Contents;II)V"⟩, prog_7_method_2_code, 6, none, [])
theorem mdR_order : zMd mR_order 3 := ⟨(zt4 (i := 141) rfl), (zt1 (i := 6) rfl), ⟨by decide +kernel, by decide +kernel, by decide +kernel⟩, by decide +kernel, by decide +kernel⟩
theorem miR_order : zMi mR_order := (zt4 (i := 139) rfl)
theorem mvR_order : zMv mR_order := (zt4 (i := 140) rfl)
def mR_place : zM := (⟨"PrefixCodeIndex$Ranking", "place", "(II)V"⟩, prog_7_method_3_code, 4, none, [])
theorem mdR_place : zMd mR_place 2 := ⟨(zt4 (i := 151) rfl), (zt1 (i := 6) rfl), ⟨by decide +kernel, by decide +kernel, by decide +kernel⟩, by decide +kernel, by decide +kernel⟩
theorem miR_place : zMi mR_place := (zt4 (i := 150) rfl)
theorem mvR_place : zMv mR_place := (zt0 (i := 21) rfl)
def mT_branchesAt : zM := (⟨"PrefixCodeIndex$Trie", "branchesAt", "(I)I"⟩, prog_8_method_7_code, 4, (some .int), [])
theorem mdT_branchesAt : zMd mT_branchesAt 1 := ⟨(zt4 (i := 180) rfl), (zt1 (i := 5) rfl), ⟨by decide +kernel, by decide +kernel, by decide +kernel⟩, by decide +kernel, by decide +kernel⟩
theorem miT_branchesAt : zMi mT_branchesAt := (zt4 (i := 178) rfl)
theorem mvT_branchesAt : zMv mT_branchesAt := (zt4 (i := 179) rfl)
def mT_build : zM := (⟨"PrefixCodeIndex$Trie", "build", "(LPrefixCodeIndex$Contents;)V"⟩, prog_8_method_10_code, 6, none, [])
theorem mdT_build : zMd mT_build 1 := ⟨(zt2 (i := 153) rfl), (zt1 (i := 5) rfl), ⟨by decide +kernel, by decide +kernel, by decide +kernel⟩, by decide +kernel, by decide +kernel⟩
theorem miT_build : zMi mT_build := (zt2 (i := 151) rfl)
theorem mvT_build : zMv mT_build := (zt2 (i := 152) rfl)
def mT_child : zM := (⟨"PrefixCodeIndex$Trie", "child", "(II)I"⟩, prog_8_method_4_code, 2, (some .int), [])
theorem mdT_child : zMd mT_child 2 := ⟨(zt2 (i := 173) rfl), (zt1 (i := 5) rfl), ⟨by decide +kernel, by decide +kernel, by decide +kernel⟩, by decide +kernel, by decide +kernel⟩
theorem msT_child : zMs mT_child := (zt2 (i := 172) rfl)
def mT_codesAt : zM := (⟨"PrefixCodeIndex$Trie", "codesAt", "(I)I"⟩, prog_8_method_6_code, 2, (some .int), [])
theorem mdT_codesAt : zMd mT_codesAt 1 := ⟨(zt2 (i := 211) rfl), (zt1 (i := 5) rfl), ⟨by decide +kernel, by decide +kernel, by decide +kernel⟩, by decide +kernel, by decide +kernel⟩
theorem miT_codesAt : zMi mT_codesAt := (zt2 (i := 209) rfl)
theorem mvT_codesAt : zMv mT_codesAt := (zt2 (i := 210) rfl)
def mT_commonestLeaf : zM := (⟨"PrefixCodeIndex$Trie", "commonestLeaf", "()I"⟩, prog_8_method_9_code, 4, (some .int), [])
theorem mdT_commonestLeaf : zMd mT_commonestLeaf 0 := ⟨(zt4 (i := 219) rfl), (zt1 (i := 5) rfl), ⟨by decide +kernel, by decide +kernel, by decide +kernel⟩, by decide +kernel, by decide +kernel⟩
theorem miT_commonestLeaf : zMi mT_commonestLeaf := (zt4 (i := 217) rfl)
theorem mvT_commonestLeaf : zMv mT_commonestLeaf := (zt4 (i := 218) rfl)
def mT_countCode : zM := (⟨"PrefixCodeIndex$Trie", "countCode", "(II)V"⟩, prog_8_method_11_code, 6, none, [])
theorem mdT_countCode : zMd mT_countCode 2 := ⟨(zt2 (i := 163) rfl), (zt1 (i := 5) rfl), ⟨by decide +kernel, by decide +kernel, by decide +kernel⟩, by decide +kernel, by decide +kernel⟩
theorem miT_countCode : zMi mT_countCode := (zt2 (i := 162) rfl)
theorem mvT_countCode : zMv mT_countCode := (zt0 (i := 3) rfl)
def mT_depthReachedBy : zM := (⟨"PrefixCodeIndex$Trie", "depthReachedBy", "(I)I"⟩, prog_8_method_8_code, 4, (some .int), [])
theorem mdT_depthReachedBy : zMd mT_depthReachedBy 1 := ⟨(zt2 (i := 207) rfl), (zt1 (i := 5) rfl), ⟨by decide +kernel, by decide +kernel, by decide +kernel⟩, by decide +kernel, by decide +kernel⟩
theorem miT_depthReachedBy : zMi mT_depthReachedBy := (zt2 (i := 205) rfl)
theorem mvT_depthReachedBy : zMv mT_depthReachedBy := (zt2 (i := 206) rfl)
def mT_digitAt : zM := (⟨"PrefixCodeIndex$Trie", "digitAt", "(II)I"⟩, prog_8_method_3_code, 2, (some .int), [])
theorem mdT_digitAt : zMd mT_digitAt 2 := ⟨(zt2 (i := 170) rfl), (zt1 (i := 5) rfl), ⟨by decide +kernel, by decide +kernel, by decide +kernel⟩, by decide +kernel, by decide +kernel⟩
theorem msT_digitAt : zMs mT_digitAt := (zt2 (i := 169) rfl)
def mT_entriesAt : zM := (⟨"PrefixCodeIndex$Trie", "entriesAt", "(I)I"⟩, prog_8_method_5_code, 2, (some .int), [])
theorem mdT_entriesAt : zMd mT_entriesAt 1 := ⟨(zt2 (i := 167) rfl), (zt1 (i := 5) rfl), ⟨by decide +kernel, by decide +kernel, by decide +kernel⟩, by decide +kernel, by decide +kernel⟩
theorem miT_entriesAt : zMi mT_entriesAt := (zt2 (i := 165) rfl)
theorem mvT_entriesAt : zMv mT_entriesAt := (zt2 (i := 166) rfl)
def mT_init : zM := (⟨"PrefixCodeIndex$Trie", "<init>", "()V"⟩, prog_8_method_1_code, 1, none, [])
theorem mdT_init : zMd mT_init 0 := ⟨(zt1 (i := 145) rfl), (zt1 (i := 5) rfl), ⟨by decide +kernel, by decide +kernel, by decide +kernel⟩, by decide +kernel, by decide +kernel⟩
theorem miT_init : zMi mT_init := (zt1 (i := 144) rfl)
def mT_nodeOf : zM := (⟨"PrefixCodeIndex$Trie", "nodeOf", "(II)I"⟩, prog_8_method_2_code, 4, (some .int), [])
theorem mdT_nodeOf : zMd mT_nodeOf 2 := ⟨(zt2 (i := 176) rfl), (zt1 (i := 5) rfl), ⟨by decide +kernel, by decide +kernel, by decide +kernel⟩, by decide +kernel, by decide +kernel⟩
theorem msT_nodeOf : zMs mT_nodeOf := (zt2 (i := 175) rfl)
def mW_addCode : zM := (⟨"PrefixCodeIndexLaw", "addCode", "(LPrefixCodeIndex;II[J)I"⟩, method_4_code, 5, (some .int), [(0, 10, 13, 21), (0, 10, 17, 13), (0, 10, 21, 15)])
theorem mdW_addCode : zMd mW_addCode 4 := ⟨(zt3 (i := 200) rfl), (zt1 (i := 0) rfl), ⟨by decide +kernel, by decide +kernel, by decide +kernel⟩, by decide +kernel, by decide +kernel⟩
theorem msW_addCode : zMs mW_addCode := (zt3 (i := 199) rfl)
def mW_addEntry : zM := (⟨"PrefixCodeIndexLaw", "addEntry", "(LPrefixCodeIndex;I[J)I"⟩, method_3_code, 4, (some .int), [(0, 9, 12, 13), (0, 9, 15, 15)])
theorem mdW_addEntry : zMd mW_addEntry 3 := ⟨(zt3 (i := 54) rfl), (zt1 (i := 0) rfl), ⟨by decide +kernel, by decide +kernel, by decide +kernel⟩, by decide +kernel, by decide +kernel⟩
theorem msW_addEntry : zMs mW_addEntry := (zt3 (i := 53) rfl)
def mW_ageOf : zM := (⟨"PrefixCodeIndexLaw", "ageOf", "(LPrefixCodeIndex;I[J)I"⟩, method_15_code, 4, (some .int), [(0, 9, 12, 21)])
theorem mdW_ageOf : zMd mW_ageOf 3 := ⟨(zt4 (i := 60) rfl), (zt1 (i := 0) rfl), ⟨by decide +kernel, by decide +kernel, by decide +kernel⟩, by decide +kernel, by decide +kernel⟩
theorem msW_ageOf : zMs mW_ageOf := (zt4 (i := 59) rfl)
def mW_append : zM := (⟨"PrefixCodeIndexLaw", "append", "(LPrefixCodeIndex;C[J)I"⟩, method_45_code, 4, (some .int), [(0, 9, 12, 13), (0, 9, 15, 15)])
theorem mdW_append : zMd mW_append 3 := ⟨(zt5 (i := 98) rfl), (zt1 (i := 0) rfl), ⟨by decide +kernel, by decide +kernel, by decide +kernel⟩, by decide +kernel, by decide +kernel⟩
theorem msW_append : zMs mW_append := (zt5 (i := 97) rfl)
def mW_codeAfter : zM := (⟨"PrefixCodeIndexLaw", "codeAfter", "(LPrefixCodeIndex;I[J)I"⟩, method_33_code, 4, (some .int), [(0, 9, 12, 13), (0, 9, 15, 21)])
theorem mdW_codeAfter : zMd mW_codeAfter 3 := ⟨(zt4 (i := 198) rfl), (zt1 (i := 0) rfl), ⟨by decide +kernel, by decide +kernel, by decide +kernel⟩, by decide +kernel, by decide +kernel⟩
theorem msW_codeAfter : zMs mW_codeAfter := (zt4 (i := 197) rfl)
def mW_codeAt : zM := (⟨"PrefixCodeIndexLaw", "codeAt", "(LPrefixCodeIndex;II[J)I"⟩, method_20_code, 5, (some .int), [(0, 10, 13, 21), (0, 10, 17, 42)])
theorem mdW_codeAt : zMd mW_codeAt 4 := ⟨(zt4 (i := 96) rfl), (zt1 (i := 0) rfl), ⟨by decide +kernel, by decide +kernel, by decide +kernel⟩, by decide +kernel, by decide +kernel⟩
theorem msW_codeAt : zMs mW_codeAt := (zt4 (i := 95) rfl)
def mW_codeCount : zM := (⟨"PrefixCodeIndexLaw", "codeCount", "(LPrefixCodeIndex;I[J)I"⟩, method_19_code, 4, (some .int), [(0, 9, 12, 21)])
theorem mdW_codeCount : zMd mW_codeCount 3 := ⟨(zt4 (i := 89) rfl), (zt1 (i := 0) rfl), ⟨by decide +kernel, by decide +kernel, by decide +kernel⟩, by decide +kernel, by decide +kernel⟩
theorem msW_codeCount : zMs mW_codeCount := (zt4 (i := 88) rfl)
def mW_codesWith : zM := (⟨"PrefixCodeIndexLaw", "codesWith", "(LPrefixCodeIndex;II[J)I"⟩, method_28_code, 5, (some .int), [(0, 10, 13, 13)])
theorem mdW_codesWith : zMd mW_codesWith 4 := ⟨(zt4 (i := 163) rfl), (zt1 (i := 0) rfl), ⟨by decide +kernel, by decide +kernel, by decide +kernel⟩, by decide +kernel, by decide +kernel⟩
theorem msW_codesWith : zMs mW_codesWith := (zt4 (i := 162) rfl)
def mW_commonestCode : zM := (⟨"PrefixCodeIndexLaw", "commonestCode", "(LPrefixCodeIndex;[J)I"⟩, method_34_code, 3, (some .int), [(0, 8, 11, 21)])
theorem mdW_commonestCode : zMd mW_commonestCode 2 := ⟨(zt4 (i := 211) rfl), (zt1 (i := 0) rfl), ⟨by decide +kernel, by decide +kernel, by decide +kernel⟩, by decide +kernel, by decide +kernel⟩
theorem msW_commonestCode : zMs mW_commonestCode := (zt4 (i := 210) rfl)
def mW_daysUntilFaded : zM := (⟨"PrefixCodeIndexLaw", "daysUntilFaded", "(LPrefixCodeIndex;I[J)I"⟩, method_37_code, 4, (some .int), [(0, 9, 12, 21)])
theorem mdW_daysUntilFaded : zMd mW_daysUntilFaded 3 := ⟨(zt4 (i := 239) rfl), (zt1 (i := 0) rfl), ⟨by decide +kernel, by decide +kernel, by decide +kernel⟩, by decide +kernel, by decide +kernel⟩
theorem msW_daysUntilFaded : zMs mW_daysUntilFaded := (zt4 (i := 238) rfl)
def mW_daysUntilFadedByDays : zM := (⟨"PrefixCodeIndexLaw", "daysUntilFadedByDays", "(LPrefixCodeIndex;I[J)I"⟩, method_38_code, 4, (some .int), [(0, 9, 12, 21)])
theorem mdW_daysUntilFadedByDays : zMd mW_daysUntilFadedByDays 3 := ⟨(zt5 (i := 3) rfl), (zt1 (i := 0) rfl), ⟨by decide +kernel, by decide +kernel, by decide +kernel⟩, by decide +kernel, by decide +kernel⟩
theorem msW_daysUntilFadedByDays : zMs mW_daysUntilFadedByDays := (zt5 (i := 2) rfl)
def mW_entriesIn : zM := (⟨"PrefixCodeIndexLaw", "entriesIn", "(LPrefixCodeIndex;I[J)I"⟩, method_23_code, 4, (some .int), [(0, 9, 12, 42)])
theorem mdW_entriesIn : zMd mW_entriesIn 3 := ⟨(zt4 (i := 118) rfl), (zt1 (i := 0) rfl), ⟨by decide +kernel, by decide +kernel, by decide +kernel⟩, by decide +kernel, by decide +kernel⟩
theorem msW_entriesIn : zMs mW_entriesIn := (zt4 (i := 117) rfl)
def mW_entriesWith : zM := (⟨"PrefixCodeIndexLaw", "entriesWith", "(LPrefixCodeIndex;I[J)I"⟩, method_32_code, 4, (some .int), [(0, 9, 12, 13)])
theorem mdW_entriesWith : zMd mW_entriesWith 3 := ⟨(zt4 (i := 191) rfl), (zt1 (i := 0) rfl), ⟨by decide +kernel, by decide +kernel, by decide +kernel⟩, by decide +kernel, by decide +kernel⟩
theorem msW_entriesWith : zMs mW_entriesWith := (zt4 (i := 190) rfl)
def mW_errorPosition : zM := (⟨"PrefixCodeIndexLaw", "errorPosition", "(LPrefixCodeIndex;[J)I"⟩, method_47_code, 3, (some .int), [(0, 8, 11, 21)])
theorem mdW_errorPosition : zMd mW_errorPosition 2 := ⟨(zt5 (i := 238) rfl), (zt1 (i := 0) rfl), ⟨by decide +kernel, by decide +kernel, by decide +kernel⟩, by decide +kernel, by decide +kernel⟩
theorem msW_errorPosition : zMs mW_errorPosition := (zt5 (i := 237) rfl)
def mW_fadedShare : zM := (⟨"PrefixCodeIndexLaw", "fadedShare", "(LPrefixCodeIndex;[D)I"⟩, method_41_code, 3, (some .int), [(0, 8, 11, 138)])
theorem mdW_fadedShare : zMd mW_fadedShare 2 := ⟨(zt5 (i := 39) rfl), (zt1 (i := 0) rfl), ⟨by decide +kernel, by decide +kernel, by decide +kernel⟩, by decide +kernel, by decide +kernel⟩
theorem msW_fadedShare : zMs mW_fadedShare := (zt5 (i := 38) rfl)
def mW_fadingWithin : zM := (⟨"PrefixCodeIndexLaw", "fadingWithin", "(LPrefixCodeIndex;I[J)I"⟩, method_39_code, 4, (some .int), [(0, 9, 12, 13)])
theorem mdW_fadingWithin : zMd mW_fadingWithin 3 := ⟨(zt5 (i := 7) rfl), (zt1 (i := 0) rfl), ⟨by decide +kernel, by decide +kernel, by decide +kernel⟩, by decide +kernel, by decide +kernel⟩
theorem msW_fadingWithin : zMs mW_fadingWithin := (zt5 (i := 6) rfl)
def mW_failedCommand : zM := (⟨"PrefixCodeIndexLaw", "failedCommand", "(LPrefixCodeIndex;[J)I"⟩, method_48_code, 3, (some .int), [(0, 8, 11, 21)])
theorem mdW_failedCommand : zMd mW_failedCommand 2 := ⟨(zt6 (i := 6) rfl), (zt1 (i := 0) rfl), ⟨by decide +kernel, by decide +kernel, by decide +kernel⟩, by decide +kernel, by decide +kernel⟩
theorem msW_failedCommand : zMs mW_failedCommand := (zt6 (i := 5) rfl)
def mW_formatEntry : zM := (⟨"PrefixCodeIndexLaw", "formatEntry", "(LPrefixCodeIndex;I[J)I"⟩, method_42_code, 4, (some .int), [(0, 9, 12, 21)])
theorem mdW_formatEntry : zMd mW_formatEntry 3 := ⟨(zt5 (i := 47) rfl), (zt1 (i := 0) rfl), ⟨by decide +kernel, by decide +kernel, by decide +kernel⟩, by decide +kernel, by decide +kernel⟩
theorem msW_formatEntry : zMs mW_formatEntry := (zt5 (i := 46) rfl)
def mW_formatResults : zM := (⟨"PrefixCodeIndexLaw", "formatResults", "(LPrefixCodeIndex;II[J)I"⟩, method_43_code, 5, (some .int), [(0, 10, 13, 13)])
theorem mdW_formatResults : zMd mW_formatResults 4 := ⟨(zt5 (i := 82) rfl), (zt1 (i := 0) rfl), ⟨by decide +kernel, by decide +kernel, by decide +kernel⟩, by decide +kernel, by decide +kernel⟩
theorem msW_formatResults : zMs mW_formatResults := (zt5 (i := 81) rfl)
def mW_hasCode : zM := (⟨"PrefixCodeIndexLaw", "hasCode", "(LPrefixCodeIndex;II[J)I"⟩, method_21_code, 5, (some .int), [(0, 17, 20, 21), (0, 17, 24, 13)])
theorem mdW_hasCode : zMd mW_hasCode 4 := ⟨(zt4 (i := 103) rfl), (zt1 (i := 0) rfl), ⟨by decide +kernel, by decide +kernel, by decide +kernel⟩, by decide +kernel, by decide +kernel⟩
theorem msW_hasCode : zMs mW_hasCode := (zt4 (i := 102) rfl)
def mW_hitsOf : zM := (⟨"PrefixCodeIndexLaw", "hitsOf", "(LPrefixCodeIndex;I[J)I"⟩, method_16_code, 4, (some .int), [(0, 9, 12, 21)])
theorem mdW_hitsOf : zMd mW_hitsOf 3 := ⟨(zt4 (i := 67) rfl), (zt1 (i := 0) rfl), ⟨by decide +kernel, by decide +kernel, by decide +kernel⟩, by decide +kernel, by decide +kernel⟩
theorem msW_hitsOf : zMs mW_hitsOf := (zt4 (i := 66) rfl)
def mW_idAt : zM := (⟨"PrefixCodeIndexLaw", "idAt", "(LPrefixCodeIndex;I[J)I"⟩, method_13_code, 4, (some .int), [(0, 9, 12, 42)])
theorem mdW_idAt : zMd mW_idAt 3 := ⟨(zt4 (i := 45) rfl), (zt1 (i := 0) rfl), ⟨by decide +kernel, by decide +kernel, by decide +kernel⟩, by decide +kernel, by decide +kernel⟩
theorem msW_idAt : zMs mW_idAt := (zt4 (i := 44) rfl)
def mW_joinSegments : zM := (⟨"PrefixCodeIndexLaw", "joinSegments", "(LPrefixCodeIndex;I[J)I"⟩, method_10_code, 4, (some .int), [(0, 9, 12, 42), (0, 9, 15, 15)])
theorem mdW_joinSegments : zMd mW_joinSegments 3 := ⟨(zt4 (i := 3) rfl), (zt1 (i := 0) rfl), ⟨by decide +kernel, by decide +kernel, by decide +kernel⟩, by decide +kernel, by decide +kernel⟩
theorem msW_joinSegments : zMs mW_joinSegments := (zt4 (i := 2) rfl)
def mW_law : zM := (⟨"PrefixCodeIndexLaw", "law", "([I)Z"⟩, code, 9, (some .boolean), [])
def mW_lifetimeOf : zM := (⟨"PrefixCodeIndexLaw", "lifetimeOf", "(LPrefixCodeIndex;I[J)I"⟩, method_17_code, 4, (some .int), [(0, 9, 12, 21)])
theorem mdW_lifetimeOf : zMd mW_lifetimeOf 3 := ⟨(zt4 (i := 74) rfl), (zt1 (i := 0) rfl), ⟨by decide +kernel, by decide +kernel, by decide +kernel⟩, by decide +kernel, by decide +kernel⟩
theorem msW_lifetimeOf : zMs mW_lifetimeOf := (zt4 (i := 73) rfl)
def mW_lineChar : zM := (⟨"PrefixCodeIndexLaw", "lineChar", "(LPrefixCodeIndex;I[J)I"⟩, method_44_code, 4, (some .int), [(0, 9, 12, 42)])
theorem mdW_lineChar : zMd mW_lineChar 3 := ⟨(zt5 (i := 90) rfl), (zt1 (i := 0) rfl), ⟨by decide +kernel, by decide +kernel, by decide +kernel⟩, by decide +kernel, by decide +kernel⟩
theorem msW_lineChar : zMs mW_lineChar := (zt5 (i := 89) rfl)
def mW_matches : zM := (⟨"PrefixCodeIndexLaw", "matches", "(LPrefixCodeIndex;III[J)I"⟩, method_22_code, 6, (some .int), [(0, 19, 22, 21), (0, 19, 26, 13)])
theorem mdW_matches : zMd mW_matches 5 := ⟨(zt4 (i := 111) rfl), (zt1 (i := 0) rfl), ⟨by decide +kernel, by decide +kernel, by decide +kernel⟩, by decide +kernel, by decide +kernel⟩
theorem msW_matches : zMs mW_matches := (zt4 (i := 110) rfl)
def mW_meanCodes : zM := (⟨"PrefixCodeIndexLaw", "meanCodes", "(LPrefixCodeIndex;[D)I"⟩, method_40_code, 3, (some .int), [(0, 7, 10, 138)])
theorem mdW_meanCodes : zMd mW_meanCodes 2 := ⟨(zt5 (i := 15) rfl), (zt1 (i := 0) rfl), ⟨by decide +kernel, by decide +kernel, by decide +kernel⟩, by decide +kernel, by decide +kernel⟩
theorem msW_meanCodes : zMs mW_meanCodes := (zt5 (i := 14) rfl)
def mW_merge : zM := (⟨"PrefixCodeIndexLaw", "merge", "(LPrefixCodeIndex;II[J)I"⟩, method_8_code, 5, (some .int), [(0, 10, 13, 21), (0, 10, 17, 13), (0, 10, 21, 15)])
theorem mdW_merge : zMd mW_merge 4 := ⟨(zt3 (i := 229) rfl), (zt1 (i := 0) rfl), ⟨by decide +kernel, by decide +kernel, by decide +kernel⟩, by decide +kernel, by decide +kernel⟩
theorem msW_merge : zMs mW_merge := (zt3 (i := 228) rfl)
def mW_mostSimilar : zM := (⟨"PrefixCodeIndexLaw", "mostSimilar", "(LPrefixCodeIndex;I[J)I"⟩, method_36_code, 4, (some .int), [(0, 9, 12, 21)])
theorem mdW_mostSimilar : zMd mW_mostSimilar 3 := ⟨(zt4 (i := 231) rfl), (zt1 (i := 0) rfl), ⟨by decide +kernel, by decide +kernel, by decide +kernel⟩, by decide +kernel, by decide +kernel⟩
theorem msW_mostSimilar : zMs mW_mostSimilar := (zt4 (i := 230) rfl)
def mW_nextDigits : zM := (⟨"PrefixCodeIndexLaw", "nextDigits", "(LPrefixCodeIndex;II[J)I"⟩, method_29_code, 5, (some .int), [(0, 10, 13, 13)])
theorem mdW_nextDigits : zMd mW_nextDigits 4 := ⟨(zt4 (i := 171) rfl), (zt1 (i := 0) rfl), ⟨by decide +kernel, by decide +kernel, by decide +kernel⟩, by decide +kernel, by decide +kernel⟩
theorem msW_nextDigits : zMs mW_nextDigits := (zt4 (i := 170) rfl)
def mW_pass : zM := (⟨"PrefixCodeIndexLaw", "pass", "(LPrefixCodeIndex;I[J)I"⟩, method_12_code, 4, (some .int), [(0, 9, 12, 13)])
theorem mdW_pass : zMd mW_pass 3 := ⟨(zt4 (i := 38) rfl), (zt1 (i := 0) rfl), ⟨by decide +kernel, by decide +kernel, by decide +kernel⟩, by decide +kernel, by decide +kernel⟩
theorem msW_pass : zMs mW_pass := (zt4 (i := 37) rfl)
def mW_removeCode : zM := (⟨"PrefixCodeIndexLaw", "removeCode", "(LPrefixCodeIndex;II[J)I"⟩, method_5_code, 5, (some .int), [(0, 10, 13, 21), (0, 10, 17, 13), (0, 10, 21, 15)])
theorem mdW_removeCode : zMd mW_removeCode 4 := ⟨(zt3 (i := 208) rfl), (zt1 (i := 0) rfl), ⟨by decide +kernel, by decide +kernel, by decide +kernel⟩, by decide +kernel, by decide +kernel⟩
theorem msW_removeCode : zMs mW_removeCode := (zt3 (i := 207) rfl)
def mW_removeEntry : zM := (⟨"PrefixCodeIndexLaw", "removeEntry", "(LPrefixCodeIndex;I[J)I"⟩, method_6_code, 4, (some .int), [(0, 9, 12, 21)])
theorem mdW_removeEntry : zMd mW_removeEntry 3 := ⟨(zt3 (i := 215) rfl), (zt1 (i := 0) rfl), ⟨by decide +kernel, by decide +kernel, by decide +kernel⟩, by decide +kernel, by decide +kernel⟩
theorem msW_removeEntry : zMs mW_removeEntry := (zt3 (i := 214) rfl)
def mW_restore : zM := (⟨"PrefixCodeIndexLaw", "restore", "(LPrefixCodeIndex;[J)I"⟩, method_50_code, 3, (some .int), [(0, 8, 11, 15)])
theorem mdW_restore : zMd mW_restore 2 := ⟨(zt6 (i := 26) rfl), (zt1 (i := 0) rfl), ⟨by decide +kernel, by decide +kernel, by decide +kernel⟩, by decide +kernel, by decide +kernel⟩
theorem msW_restore : zMs mW_restore := (zt6 (i := 25) rfl)
def mW_resultAt : zM := (⟨"PrefixCodeIndexLaw", "resultAt", "(LPrefixCodeIndex;III[J)I"⟩, method_26_code, 6, (some .int), [(0, 12, 15, 13), (0, 12, 19, 21)])
theorem mdW_resultAt : zMd mW_resultAt 5 := ⟨(zt4 (i := 133) rfl), (zt1 (i := 0) rfl), ⟨by decide +kernel, by decide +kernel, by decide +kernel⟩, by decide +kernel, by decide +kernel⟩
theorem msW_resultAt : zMs mW_resultAt := (zt4 (i := 132) rfl)
def mW_resultCount : zM := (⟨"PrefixCodeIndexLaw", "resultCount", "(LPrefixCodeIndex;II[J)I"⟩, method_24_code, 5, (some .int), [(0, 10, 13, 13)])
theorem mdW_resultCount : zMd mW_resultCount 4 := ⟨(zt4 (i := 125) rfl), (zt1 (i := 0) rfl), ⟨by decide +kernel, by decide +kernel, by decide +kernel⟩, by decide +kernel, by decide +kernel⟩
theorem msW_resultCount : zMs mW_resultCount := (zt4 (i := 124) rfl)
def mW_resultCountByScan : zM := (⟨"PrefixCodeIndexLaw", "resultCountByScan", "(LPrefixCodeIndex;II[J)I"⟩, method_25_code, 5, (some .int), [(0, 10, 13, 13)])
theorem mdW_resultCountByScan : zMd mW_resultCountByScan 4 := ⟨(zt4 (i := 129) rfl), (zt1 (i := 0) rfl), ⟨by decide +kernel, by decide +kernel, by decide +kernel⟩, by decide +kernel, by decide +kernel⟩
theorem msW_resultCountByScan : zMs mW_resultCountByScan := (zt4 (i := 128) rfl)
def mW_run : zM := (⟨"PrefixCodeIndexLaw", "run", "(LPrefixCodeIndex;[J)I"⟩, method_46_code, 3, (some .int), [(0, 8, 11, 13), (0, 8, 14, 15)])
theorem mdW_run : zMd mW_run 2 := ⟨(zt5 (i := 111) rfl), (zt1 (i := 0) rfl), ⟨by decide +kernel, by decide +kernel, by decide +kernel⟩, by decide +kernel, by decide +kernel⟩
theorem msW_run : zMs mW_run := (zt5 (i := 110) rfl)
def mW_scoreOf : zM := (⟨"PrefixCodeIndexLaw", "scoreOf", "(LPrefixCodeIndex;III[J)I"⟩, method_27_code, 6, (some .int), [(0, 12, 15, 21), (0, 12, 19, 13)])
theorem mdW_scoreOf : zMd mW_scoreOf 5 := ⟨(zt4 (i := 155) rfl), (zt1 (i := 0) rfl), ⟨by decide +kernel, by decide +kernel, by decide +kernel⟩, by decide +kernel, by decide +kernel⟩
theorem msW_scoreOf : zMs mW_scoreOf := (zt4 (i := 154) rfl)
def mW_search : zM := (⟨"PrefixCodeIndexLaw", "search", "(LPrefixCodeIndex;II[J)I"⟩, method_11_code, 5, (some .int), [(0, 10, 13, 13)])
theorem mdW_search : zMd mW_search 4 := ⟨(zt4 (i := 31) rfl), (zt1 (i := 0) rfl), ⟨by decide +kernel, by decide +kernel, by decide +kernel⟩, by decide +kernel, by decide +kernel⟩
theorem msW_search : zMs mW_search := (zt4 (i := 30) rfl)
def mW_segmentOf : zM := (⟨"PrefixCodeIndexLaw", "segmentOf", "(LPrefixCodeIndex;I[J)I"⟩, method_18_code, 4, (some .int), [(0, 9, 12, 21)])
theorem mdW_segmentOf : zMd mW_segmentOf 3 := ⟨(zt4 (i := 82) rfl), (zt1 (i := 0) rfl), ⟨by decide +kernel, by decide +kernel, by decide +kernel⟩, by decide +kernel, by decide +kernel⟩
theorem msW_segmentOf : zMs mW_segmentOf := (zt4 (i := 81) rfl)
def mW_sharedCodes : zM := (⟨"PrefixCodeIndexLaw", "sharedCodes", "(LPrefixCodeIndex;II[J)I"⟩, method_35_code, 5, (some .int), [(0, 10, 13, 21)])
theorem mdW_sharedCodes : zMd mW_sharedCodes 4 := ⟨(zt4 (i := 223) rfl), (zt1 (i := 0) rfl), ⟨by decide +kernel, by decide +kernel, by decide +kernel⟩, by decide +kernel, by decide +kernel⟩
theorem msW_sharedCodes : zMs mW_sharedCodes := (zt4 (i := 222) rfl)
def mW_sharedDigits : zM := (⟨"PrefixCodeIndexLaw", "sharedDigits", "(LPrefixCodeIndex;I[J)I"⟩, method_30_code, 4, (some .int), [(0, 9, 12, 13)])
theorem mdW_sharedDigits : zMd mW_sharedDigits 3 := ⟨(zt4 (i := 183) rfl), (zt1 (i := 0) rfl), ⟨by decide +kernel, by decide +kernel, by decide +kernel⟩, by decide +kernel, by decide +kernel⟩
theorem msW_sharedDigits : zMs mW_sharedDigits := (zt4 (i := 182) rfl)
def mW_sharedDigitsByScan : zM := (⟨"PrefixCodeIndexLaw", "sharedDigitsByScan", "(LPrefixCodeIndex;I[J)I"⟩, method_31_code, 4, (some .int), [(0, 9, 12, 13)])
theorem mdW_sharedDigitsByScan : zMd mW_sharedDigitsByScan 3 := ⟨(zt4 (i := 187) rfl), (zt1 (i := 0) rfl), ⟨by decide +kernel, by decide +kernel, by decide +kernel⟩, by decide +kernel, by decide +kernel⟩
theorem msW_sharedDigitsByScan : zMs mW_sharedDigitsByScan := (zt4 (i := 186) rfl)
def mW_startSegment : zM := (⟨"PrefixCodeIndexLaw", "startSegment", "(LPrefixCodeIndex;[J)I"⟩, method_9_code, 3, (some .int), [(0, 8, 11, 15)])
theorem mdW_startSegment : zMd mW_startSegment 2 := ⟨(zt3 (i := 236) rfl), (zt1 (i := 0) rfl), ⟨by decide +kernel, by decide +kernel, by decide +kernel⟩, by decide +kernel, by decide +kernel⟩
theorem msW_startSegment : zMs mW_startSegment := (zt3 (i := 235) rfl)
def mW_touch : zM := (⟨"PrefixCodeIndexLaw", "touch", "(LPrefixCodeIndex;I[J)I"⟩, method_7_code, 4, (some .int), [(0, 9, 12, 21)])
theorem mdW_touch : zMd mW_touch 3 := ⟨(zt3 (i := 222) rfl), (zt1 (i := 0) rfl), ⟨by decide +kernel, by decide +kernel, by decide +kernel⟩, by decide +kernel, by decide +kernel⟩
theorem msW_touch : zMs mW_touch := (zt3 (i := 221) rfl)
def mW_undo : zM := (⟨"PrefixCodeIndexLaw", "undo", "(LPrefixCodeIndex;[J)I"⟩, method_49_code, 3, (some .int), [(0, 8, 11, 15)])
theorem mdW_undo : zMd mW_undo 2 := ⟨(zt6 (i := 14) rfl), (zt1 (i := 0) rfl), ⟨by decide +kernel, by decide +kernel, by decide +kernel⟩, by decide +kernel, by decide +kernel⟩
theorem msW_undo : zMs mW_undo := (zt6 (i := 13) rfl)
def mW_weightOf : zM := (⟨"PrefixCodeIndexLaw", "weightOf", "(LPrefixCodeIndex;I[J)I"⟩, method_14_code, 4, (some .int), [(0, 9, 12, 21)])
theorem mdW_weightOf : zMd mW_weightOf 3 := ⟨(zt4 (i := 53) rfl), (zt1 (i := 0) rfl), ⟨by decide +kernel, by decide +kernel, by decide +kernel⟩, by decide +kernel, by decide +kernel⟩
theorem msW_weightOf : zMs mW_weightOf := (zt4 (i := 52) rfl)
def mX_addCode : zM := (⟨"PrefixCodeIndex", "addCode", "(II)I"⟩, prog_1_method_3_code, 3, (some .int), [])
theorem mdX_addCode : zMd mX_addCode 2 := ⟨(zt3 (i := 205) rfl), (zt1 (i := 1) rfl), ⟨by decide +kernel, by decide +kernel, by decide +kernel⟩, by decide +kernel, by decide +kernel⟩
theorem miX_addCode : zMi mX_addCode := (zt3 (i := 203) rfl)
theorem mvX_addCode : zMv mX_addCode := (zt3 (i := 204) rfl)
def mX_addEntry : zM := (⟨"PrefixCodeIndex", "addEntry", "(I)I"⟩, prog_1_method_2_code, 2, (some .int), [])
theorem mdX_addEntry : zMd mX_addEntry 1 := ⟨(zt3 (i := 60) rfl), (zt1 (i := 1) rfl), ⟨by decide +kernel, by decide +kernel, by decide +kernel⟩, by decide +kernel, by decide +kernel⟩
theorem miX_addEntry : zMi mX_addEntry := (zt3 (i := 58) rfl)
theorem mvX_addEntry : zMv mX_addEntry := (zt3 (i := 59) rfl)
def mX_addedTotal : zM := (⟨"PrefixCodeIndex", "addedTotal", "()I"⟩, prog_1_method_45_code, 1, (some .int), [])
theorem mdX_addedTotal : zMd mX_addedTotal 0 := ⟨(zt2 (i := 41) rfl), (zt1 (i := 1) rfl), ⟨by decide +kernel, by decide +kernel, by decide +kernel⟩, by decide +kernel, by decide +kernel⟩
theorem miX_addedTotal : zMi mX_addedTotal := (zt2 (i := 39) rfl)
theorem mvX_addedTotal : zMv mX_addedTotal := (zt2 (i := 40) rfl)
def mX_ageOf : zM := (⟨"PrefixCodeIndex", "ageOf", "(I)I"⟩, prog_1_method_17_code, 2, (some .int), [])
theorem mdX_ageOf : zMd mX_ageOf 1 := ⟨(zt4 (i := 64) rfl), (zt1 (i := 1) rfl), ⟨by decide +kernel, by decide +kernel, by decide +kernel⟩, by decide +kernel, by decide +kernel⟩
theorem miX_ageOf : zMi mX_ageOf := (zt4 (i := 62) rfl)
theorem mvX_ageOf : zMv mX_ageOf := (zt4 (i := 63) rfl)
def mX_append : zM := (⟨"PrefixCodeIndex", "append", "(C)I"⟩, prog_1_method_59_code, 2, (some .int), [])
theorem mdX_append : zMd mX_append 1 := ⟨(zt5 (i := 102) rfl), (zt1 (i := 1) rfl), ⟨by decide +kernel, by decide +kernel, by decide +kernel⟩, by decide +kernel, by decide +kernel⟩
theorem miX_append : zMi mX_append := (zt5 (i := 100) rfl)
theorem mvX_append : zMv mX_append := (zt5 (i := 101) rfl)
def mX_change : zM := (⟨"PrefixCodeIndex", "change", "(III)I"⟩, prog_1_method_12_code, 5, (some .int), [])
theorem mdX_change : zMd mX_change 3 := ⟨(zt3 (i := 64) rfl), (zt1 (i := 1) rfl), ⟨by decide +kernel, by decide +kernel, by decide +kernel⟩, by decide +kernel, by decide +kernel⟩
theorem miX_change : zMi mX_change := (zt3 (i := 63) rfl)
theorem mvX_change : zMv mX_change := (zt0 (i := 8) rfl)
def mX_codeAfter : zM := (⟨"PrefixCodeIndex", "codeAfter", "(I)I"⟩, prog_1_method_37_code, 4, (some .int), [])
theorem mdX_codeAfter : zMd mX_codeAfter 1 := ⟨(zt4 (i := 202) rfl), (zt1 (i := 1) rfl), ⟨by decide +kernel, by decide +kernel, by decide +kernel⟩, by decide +kernel, by decide +kernel⟩
theorem miX_codeAfter : zMi mX_codeAfter := (zt4 (i := 200) rfl)
theorem mvX_codeAfter : zMv mX_codeAfter := (zt4 (i := 201) rfl)
def mX_codeAt : zM := (⟨"PrefixCodeIndex", "codeAt", "(II)I"⟩, prog_1_method_22_code, 4, (some .int), [])
theorem mdX_codeAt : zMd mX_codeAt 2 := ⟨(zt4 (i := 100) rfl), (zt1 (i := 1) rfl), ⟨by decide +kernel, by decide +kernel, by decide +kernel⟩, by decide +kernel, by decide +kernel⟩
theorem miX_codeAt : zMi mX_codeAt := (zt4 (i := 98) rfl)
theorem mvX_codeAt : zMv mX_codeAt := (zt4 (i := 99) rfl)
def mX_codeCount : zM := (⟨"PrefixCodeIndex", "codeCount", "(I)I"⟩, prog_1_method_21_code, 2, (some .int), [])
theorem mdX_codeCount : zMd mX_codeCount 1 := ⟨(zt4 (i := 93) rfl), (zt1 (i := 1) rfl), ⟨by decide +kernel, by decide +kernel, by decide +kernel⟩, by decide +kernel, by decide +kernel⟩
theorem miX_codeCount : zMi mX_codeCount := (zt4 (i := 91) rfl)
theorem mvX_codeCount : zMv mX_codeCount := (zt4 (i := 92) rfl)
def mX_codesWith : zM := (⟨"PrefixCodeIndex", "codesWith", "(II)I"⟩, prog_1_method_32_code, 3, (some .int), [])
theorem mdX_codesWith : zMd mX_codesWith 2 := ⟨(zt4 (i := 167) rfl), (zt1 (i := 1) rfl), ⟨by decide +kernel, by decide +kernel, by decide +kernel⟩, by decide +kernel, by decide +kernel⟩
theorem miX_codesWith : zMi mX_codesWith := (zt4 (i := 165) rfl)
theorem mvX_codesWith : zMv mX_codesWith := (zt4 (i := 166) rfl)
def mX_commonDigits : zM := (⟨"PrefixCodeIndex", "commonDigits", "(II)I"⟩, prog_1_method_74_code, 2, (some .int), [])
theorem mdX_commonDigits : zMd mX_commonDigits 2 := ⟨(zt2 (i := 159) rfl), (zt1 (i := 1) rfl), ⟨by decide +kernel, by decide +kernel, by decide +kernel⟩, by decide +kernel, by decide +kernel⟩
theorem msX_commonDigits : zMs mX_commonDigits := (zt2 (i := 158) rfl)
def mX_commonestCode : zM := (⟨"PrefixCodeIndex", "commonestCode", "()I"⟩, prog_1_method_38_code, 2, (some .int), [])
theorem mdX_commonestCode : zMd mX_commonestCode 0 := ⟨(zt4 (i := 215) rfl), (zt1 (i := 1) rfl), ⟨by decide +kernel, by decide +kernel, by decide +kernel⟩, by decide +kernel, by decide +kernel⟩
theorem miX_commonestCode : zMi mX_commonestCode := (zt4 (i := 213) rfl)
theorem mvX_commonestCode : zMv mX_commonestCode := (zt4 (i := 214) rfl)
def mX_daysUntilFaded : zM := (⟨"PrefixCodeIndex", "daysUntilFaded", "(I)I"⟩, prog_1_method_42_code, 2, (some .int), [])
theorem mdX_daysUntilFaded : zMd mX_daysUntilFaded 1 := ⟨(zt2 (i := 227) rfl), (zt1 (i := 1) rfl), ⟨by decide +kernel, by decide +kernel, by decide +kernel⟩, by decide +kernel, by decide +kernel⟩
theorem miX_daysUntilFaded : zMi mX_daysUntilFaded := (zt2 (i := 225) rfl)
theorem mvX_daysUntilFaded : zMv mX_daysUntilFaded := (zt2 (i := 226) rfl)
def mX_daysUntilFadedByDays : zM := (⟨"PrefixCodeIndex", "daysUntilFadedByDays", "(I)I"⟩, prog_1_method_43_code, 3, (some .int), [])
theorem mdX_daysUntilFadedByDays : zMd mX_daysUntilFadedByDays 1 := ⟨(zt3 (i := 23) rfl), (zt1 (i := 1) rfl), ⟨by decide +kernel, by decide +kernel, by decide +kernel⟩, by decide +kernel, by decide +kernel⟩
theorem miX_daysUntilFadedByDays : zMi mX_daysUntilFadedByDays := (zt3 (i := 21) rfl)
theorem mvX_daysUntilFadedByDays : zMv mX_daysUntilFadedByDays := (zt3 (i := 22) rfl)
def mX_entriesIn : zM := (⟨"PrefixCodeIndex", "entriesIn", "(I)I"⟩, prog_1_method_27_code, 4, (some .int), [])
theorem mdX_entriesIn : zMd mX_entriesIn 1 := ⟨(zt4 (i := 122) rfl), (zt1 (i := 1) rfl), ⟨by decide +kernel, by decide +kernel, by decide +kernel⟩, by decide +kernel, by decide +kernel⟩
theorem miX_entriesIn : zMi mX_entriesIn := (zt4 (i := 120) rfl)
theorem mvX_entriesIn : zMv mX_entriesIn := (zt4 (i := 121) rfl)
def mX_entriesWith : zM := (⟨"PrefixCodeIndex", "entriesWith", "(I)I"⟩, prog_1_method_36_code, 2, (some .int), [])
theorem mdX_entriesWith : zMd mX_entriesWith 1 := ⟨(zt4 (i := 195) rfl), (zt1 (i := 1) rfl), ⟨by decide +kernel, by decide +kernel, by decide +kernel⟩, by decide +kernel, by decide +kernel⟩
theorem miX_entriesWith : zMi mX_entriesWith := (zt4 (i := 193) rfl)
theorem mvX_entriesWith : zMv mX_entriesWith := (zt4 (i := 194) rfl)
def mX_entryCount : zM := (⟨"PrefixCodeIndex", "entryCount", "()I"⟩, prog_1_method_14_code, 1, (some .int), [])
theorem mdX_entryCount : zMd mX_entryCount 0 := ⟨(zt2 (i := 33) rfl), (zt1 (i := 1) rfl), ⟨by decide +kernel, by decide +kernel, by decide +kernel⟩, by decide +kernel, by decide +kernel⟩
theorem miX_entryCount : zMi mX_entryCount := (zt2 (i := 31) rfl)
theorem mvX_entryCount : zMv mX_entryCount := (zt2 (i := 32) rfl)
def mX_errorPosition : zM := (⟨"PrefixCodeIndex", "errorPosition", "()I"⟩, prog_1_method_62_code, 1, (some .int), [])
theorem mdX_errorPosition : zMd mX_errorPosition 0 := ⟨(zt6 (i := 2) rfl), (zt1 (i := 1) rfl), ⟨by decide +kernel, by decide +kernel, by decide +kernel⟩, by decide +kernel, by decide +kernel⟩
theorem miX_errorPosition : zMi mX_errorPosition := (zt6 (i := 0) rfl)
theorem mvX_errorPosition : zMv mX_errorPosition := (zt6 (i := 1) rfl)
def mX_existing : zM := (⟨"PrefixCodeIndex", "existing", "(I)LPrefixCodeIndex$Entry;"⟩, prog_1_method_25_code, 3, (some (.object "PrefixCodeIndex$Entry")), [])
theorem mdX_existing : zMd mX_existing 1 := ⟨(zt2 (i := 231) rfl), (zt1 (i := 1) rfl), ⟨by decide +kernel, by decide +kernel, by decide +kernel⟩, by decide +kernel, by decide +kernel⟩
theorem miX_existing : zMi mX_existing := (zt2 (i := 230) rfl)
theorem mvX_existing : zMv mX_existing := (zt0 (i := 6) rfl)
def mX_fadedShare : zM := (⟨"PrefixCodeIndex", "fadedShare", "()F"⟩, prog_1_method_50_code, 1, (some .float), [])
theorem mdX_fadedShare : zMd mX_fadedShare 0 := ⟨(zt5 (i := 43) rfl), (zt1 (i := 1) rfl), ⟨by decide +kernel, by decide +kernel, by decide +kernel⟩, by decide +kernel, by decide +kernel⟩
theorem miX_fadedShare : zMi mX_fadedShare := (zt5 (i := 41) rfl)
theorem mvX_fadedShare : zMv mX_fadedShare := (zt5 (i := 42) rfl)
def mX_fadedTotal : zM := (⟨"PrefixCodeIndex", "fadedTotal", "()I"⟩, prog_1_method_48_code, 1, (some .int), [])
theorem mdX_fadedTotal : zMd mX_fadedTotal 0 := ⟨(zt2 (i := 53) rfl), (zt1 (i := 1) rfl), ⟨by decide +kernel, by decide +kernel, by decide +kernel⟩, by decide +kernel, by decide +kernel⟩
theorem miX_fadedTotal : zMi mX_fadedTotal := (zt2 (i := 51) rfl)
theorem mvX_fadedTotal : zMv mX_fadedTotal := (zt2 (i := 52) rfl)
def mX_fadingAgrees : zM := (⟨"PrefixCodeIndex", "fadingAgrees", "()Z"⟩, prog_1_method_54_code, 3, (some .boolean), [])
theorem mdX_fadingAgrees : zMd mX_fadingAgrees 0 := ⟨(zt2 (i := 223) rfl), (zt1 (i := 1) rfl), ⟨by decide +kernel, by decide +kernel, by decide +kernel⟩, by decide +kernel, by decide +kernel⟩
theorem miX_fadingAgrees : zMi mX_fadingAgrees := (zt2 (i := 222) rfl)
theorem mvX_fadingAgrees : zMv mX_fadingAgrees := (zt0 (i := 5) rfl)
def mX_fadingWithin : zM := (⟨"PrefixCodeIndex", "fadingWithin", "(I)I"⟩, prog_1_method_44_code, 4, (some .int), [])
theorem mdX_fadingWithin : zMd mX_fadingWithin 1 := ⟨(zt5 (i := 11) rfl), (zt1 (i := 1) rfl), ⟨by decide +kernel, by decide +kernel, by decide +kernel⟩, by decide +kernel, by decide +kernel⟩
theorem miX_fadingWithin : zMi mX_fadingWithin := (zt5 (i := 9) rfl)
theorem mvX_fadingWithin : zMv mX_fadingWithin := (zt5 (i := 10) rfl)
def mX_failedCommand : zM := (⟨"PrefixCodeIndex", "failedCommand", "()I"⟩, prog_1_method_63_code, 1, (some .int), [])
theorem mdX_failedCommand : zMd mX_failedCommand 0 := ⟨(zt6 (i := 10) rfl), (zt1 (i := 1) rfl), ⟨by decide +kernel, by decide +kernel, by decide +kernel⟩, by decide +kernel, by decide +kernel⟩
theorem miX_failedCommand : zMi mX_failedCommand := (zt6 (i := 8) rfl)
theorem mvX_failedCommand : zMv mX_failedCommand := (zt6 (i := 9) rfl)
def mX_firstFailing : zM := (⟨"PrefixCodeIndex", "firstFailing", "()I"⟩, prog_1_method_61_code, 3, (some .int), [])
theorem mdX_firstFailing : zMd mX_firstFailing 0 := ⟨(zt5 (i := 230) rfl), (zt1 (i := 1) rfl), ⟨by decide +kernel, by decide +kernel, by decide +kernel⟩, by decide +kernel, by decide +kernel⟩
theorem miX_firstFailing : zMi mX_firstFailing := (zt5 (i := 229) rfl)
theorem mvX_firstFailing : zMv mX_firstFailing := (zt0 (i := 32) rfl)
def mX_formatEntry : zM := (⟨"PrefixCodeIndex", "formatEntry", "(I)I"⟩, prog_1_method_56_code, 4, (some .int), [])
theorem mdX_formatEntry : zMd mX_formatEntry 1 := ⟨(zt5 (i := 51) rfl), (zt1 (i := 1) rfl), ⟨by decide +kernel, by decide +kernel, by decide +kernel⟩, by decide +kernel, by decide +kernel⟩
theorem miX_formatEntry : zMi mX_formatEntry := (zt5 (i := 49) rfl)
theorem mvX_formatEntry : zMv mX_formatEntry := (zt5 (i := 50) rfl)
def mX_formatResults : zM := (⟨"PrefixCodeIndex", "formatResults", "(II)I"⟩, prog_1_method_57_code, 4, (some .int), [])
theorem mdX_formatResults : zMd mX_formatResults 2 := ⟨(zt5 (i := 86) rfl), (zt1 (i := 1) rfl), ⟨by decide +kernel, by decide +kernel, by decide +kernel⟩, by decide +kernel, by decide +kernel⟩
theorem miX_formatResults : zMi mX_formatResults := (zt5 (i := 84) rfl)
theorem mvX_formatResults : zMv mX_formatResults := (zt5 (i := 85) rfl)
def mX_freshTrie : zM := (⟨"PrefixCodeIndex", "freshTrie", "()LPrefixCodeIndex$Trie;"⟩, prog_1_method_41_code, 1, (some (.object "PrefixCodeIndex$Trie")), [])
theorem mdX_freshTrie : zMd mX_freshTrie 0 := ⟨(zt2 (i := 149) rfl), (zt1 (i := 1) rfl), ⟨by decide +kernel, by decide +kernel, by decide +kernel⟩, by decide +kernel, by decide +kernel⟩
theorem miX_freshTrie : zMi mX_freshTrie := (zt2 (i := 148) rfl)
theorem mvX_freshTrie : zMv mX_freshTrie := (zt0 (i := 2) rfl)
def mX_hasCode : zM := (⟨"PrefixCodeIndex", "hasCode", "(II)Z"⟩, prog_1_method_23_code, 4, (some .boolean), [])
theorem mdX_hasCode : zMd mX_hasCode 2 := ⟨(zt4 (i := 107) rfl), (zt1 (i := 1) rfl), ⟨by decide +kernel, by decide +kernel, by decide +kernel⟩, by decide +kernel, by decide +kernel⟩
theorem miX_hasCode : zMi mX_hasCode := (zt4 (i := 105) rfl)
theorem mvX_hasCode : zMv mX_hasCode := (zt4 (i := 106) rfl)
def mX_hasPrefix : zM := (⟨"PrefixCodeIndex", "hasPrefix", "(III)Z"⟩, prog_1_method_72_code, 3, (some .boolean), [])
theorem mdX_hasPrefix : zMd mX_hasPrefix 3 := ⟨(zt2 (i := 188) rfl), (zt1 (i := 1) rfl), ⟨by decide +kernel, by decide +kernel, by decide +kernel⟩, by decide +kernel, by decide +kernel⟩
theorem msX_hasPrefix : zMs mX_hasPrefix := (zt2 (i := 187) rfl)
def mX_hitsOf : zM := (⟨"PrefixCodeIndex", "hitsOf", "(I)I"⟩, prog_1_method_18_code, 2, (some .int), [])
theorem mdX_hitsOf : zMd mX_hitsOf 1 := ⟨(zt4 (i := 71) rfl), (zt1 (i := 1) rfl), ⟨by decide +kernel, by decide +kernel, by decide +kernel⟩, by decide +kernel, by decide +kernel⟩
theorem miX_hitsOf : zMi mX_hitsOf := (zt4 (i := 69) rfl)
theorem mvX_hitsOf : zMv mX_hitsOf := (zt4 (i := 70) rfl)
def mX_idAt : zM := (⟨"PrefixCodeIndex", "idAt", "(I)I"⟩, prog_1_method_15_code, 2, (some .int), [])
theorem mdX_idAt : zMd mX_idAt 1 := ⟨(zt4 (i := 49) rfl), (zt1 (i := 1) rfl), ⟨by decide +kernel, by decide +kernel, by decide +kernel⟩, by decide +kernel, by decide +kernel⟩
theorem miX_idAt : zMi mX_idAt := (zt4 (i := 47) rfl)
theorem mvX_idAt : zMv mX_idAt := (zt4 (i := 48) rfl)
def mX_init : zM := (⟨"PrefixCodeIndex", "<init>", "()V"⟩, prog_1_method_1_code, 1, none, [])
theorem mdX_init : zMd mX_init 0 := ⟨(zt1 (i := 30) rfl), (zt1 (i := 1) rfl), ⟨by decide +kernel, by decide +kernel, by decide +kernel⟩, by decide +kernel, by decide +kernel⟩
theorem miX_init : zMi mX_init := (zt1 (i := 29) rfl)
def mX_isCode : zM := (⟨"PrefixCodeIndex", "isCode", "(I)Z"⟩, prog_1_method_70_code, 1, (some .boolean), [])
theorem mdX_isCode : zMd mX_isCode 1 := ⟨(zt2 (i := 202) rfl), (zt1 (i := 1) rfl), ⟨by decide +kernel, by decide +kernel, by decide +kernel⟩, by decide +kernel, by decide +kernel⟩
theorem msX_isCode : zMs mX_isCode := (zt2 (i := 201) rfl)
def mX_isConsistent : zM := (⟨"PrefixCodeIndex", "isConsistent", "()Z"⟩, prog_1_method_51_code, 1, (some .boolean), [])
theorem mdX_isConsistent : zMd mX_isConsistent 0 := ⟨(zt2 (i := 57) rfl), (zt1 (i := 1) rfl), ⟨by decide +kernel, by decide +kernel, by decide +kernel⟩, by decide +kernel, by decide +kernel⟩
theorem miX_isConsistent : zMi mX_isConsistent := (zt2 (i := 55) rfl)
theorem mvX_isConsistent : zMv mX_isConsistent := (zt2 (i := 56) rfl)
def mX_isPrefix : zM := (⟨"PrefixCodeIndex", "isPrefix", "(II)Z"⟩, prog_1_method_71_code, 2, (some .boolean), [])
theorem mdX_isPrefix : zMd mX_isPrefix 2 := ⟨(zt2 (i := 71) rfl), (zt1 (i := 1) rfl), ⟨by decide +kernel, by decide +kernel, by decide +kernel⟩, by decide +kernel, by decide +kernel⟩
theorem msX_isPrefix : zMs mX_isPrefix := (zt2 (i := 70) rfl)
def mX_joinSegments : zM := (⟨"PrefixCodeIndex", "joinSegments", "(I)I"⟩, prog_1_method_9_code, 2, (some .int), [])
theorem mdX_joinSegments : zMd mX_joinSegments 1 := ⟨(zt4 (i := 28) rfl), (zt1 (i := 1) rfl), ⟨by decide +kernel, by decide +kernel, by decide +kernel⟩, by decide +kernel, by decide +kernel⟩
theorem miX_joinSegments : zMi mX_joinSegments := (zt4 (i := 26) rfl)
theorem mvX_joinSegments : zMv mX_joinSegments := (zt4 (i := 27) rfl)
def mX_lifetimeOf : zM := (⟨"PrefixCodeIndex", "lifetimeOf", "(I)I"⟩, prog_1_method_19_code, 2, (some .int), [])
theorem mdX_lifetimeOf : zMd mX_lifetimeOf 1 := ⟨(zt4 (i := 78) rfl), (zt1 (i := 1) rfl), ⟨by decide +kernel, by decide +kernel, by decide +kernel⟩, by decide +kernel, by decide +kernel⟩
theorem miX_lifetimeOf : zMi mX_lifetimeOf := (zt4 (i := 76) rfl)
theorem mvX_lifetimeOf : zMv mX_lifetimeOf := (zt4 (i := 77) rfl)
def mX_lineChar : zM := (⟨"PrefixCodeIndex", "lineChar", "(I)C"⟩, prog_1_method_58_code, 2, (some .char), [])
theorem mdX_lineChar : zMd mX_lineChar 1 := ⟨(zt5 (i := 94) rfl), (zt1 (i := 1) rfl), ⟨by decide +kernel, by decide +kernel, by decide +kernel⟩, by decide +kernel, by decide +kernel⟩
theorem miX_lineChar : zMi mX_lineChar := (zt5 (i := 92) rfl)
theorem mvX_lineChar : zMv mX_lineChar := (zt5 (i := 93) rfl)
def mX_matches : zM := (⟨"PrefixCodeIndex", "matches", "(III)Z"⟩, prog_1_method_24_code, 5, (some .boolean), [])
theorem mdX_matches : zMd mX_matches 3 := ⟨(zt4 (i := 115) rfl), (zt1 (i := 1) rfl), ⟨by decide +kernel, by decide +kernel, by decide +kernel⟩, by decide +kernel, by decide +kernel⟩
theorem miX_matches : zMi mX_matches := (zt4 (i := 113) rfl)
theorem mvX_matches : zMv mX_matches := (zt4 (i := 114) rfl)
def mX_meanCodes : zM := (⟨"PrefixCodeIndex", "meanCodes", "()D"⟩, prog_1_method_49_code, 3, (some .double), [])
theorem mdX_meanCodes : zMd mX_meanCodes 0 := ⟨(zt5 (i := 33) rfl), (zt1 (i := 1) rfl), ⟨by decide +kernel, by decide +kernel, by decide +kernel⟩, by decide +kernel, by decide +kernel⟩
theorem miX_meanCodes : zMi mX_meanCodes := (zt5 (i := 31) rfl)
theorem mvX_meanCodes : zMv mX_meanCodes := (zt5 (i := 32) rfl)
def mX_merge : zM := (⟨"PrefixCodeIndex", "merge", "(II)I"⟩, prog_1_method_7_code, 3, (some .int), [])
theorem mdX_merge : zMd mX_merge 2 := ⟨(zt3 (i := 233) rfl), (zt1 (i := 1) rfl), ⟨by decide +kernel, by decide +kernel, by decide +kernel⟩, by decide +kernel, by decide +kernel⟩
theorem miX_merge : zMi mX_merge := (zt3 (i := 231) rfl)
theorem mvX_merge : zMv mX_merge := (zt3 (i := 232) rfl)
def mX_mergedTotal : zM := (⟨"PrefixCodeIndex", "mergedTotal", "()I"⟩, prog_1_method_47_code, 1, (some .int), [])
theorem mdX_mergedTotal : zMd mX_mergedTotal 0 := ⟨(zt2 (i := 49) rfl), (zt1 (i := 1) rfl), ⟨by decide +kernel, by decide +kernel, by decide +kernel⟩, by decide +kernel, by decide +kernel⟩
theorem miX_mergedTotal : zMi mX_mergedTotal := (zt2 (i := 47) rfl)
theorem mvX_mergedTotal : zMv mX_mergedTotal := (zt2 (i := 48) rfl)
def mX_mostSimilar : zM := (⟨"PrefixCodeIndex", "mostSimilar", "(I)I"⟩, prog_1_method_40_code, 8, (some .int), [])
theorem mdX_mostSimilar : zMd mX_mostSimilar 1 := ⟨(zt4 (i := 235) rfl), (zt1 (i := 1) rfl), ⟨by decide +kernel, by decide +kernel, by decide +kernel⟩, by decide +kernel, by decide +kernel⟩
theorem miX_mostSimilar : zMi mX_mostSimilar := (zt4 (i := 233) rfl)
theorem mvX_mostSimilar : zMv mX_mostSimilar := (zt4 (i := 234) rfl)
def mX_nextDigits : zM := (⟨"PrefixCodeIndex", "nextDigits", "(II)I"⟩, prog_1_method_33_code, 3, (some .int), [])
theorem mdX_nextDigits : zMd mX_nextDigits 2 := ⟨(zt4 (i := 175) rfl), (zt1 (i := 1) rfl), ⟨by decide +kernel, by decide +kernel, by decide +kernel⟩, by decide +kernel, by decide +kernel⟩
theorem miX_nextDigits : zMi mX_nextDigits := (zt4 (i := 173) rfl)
theorem mvX_nextDigits : zMv mX_nextDigits := (zt4 (i := 174) rfl)
def mX_pass : zM := (⟨"PrefixCodeIndex", "pass", "(I)I"⟩, prog_1_method_11_code, 2, (some .int), [])
theorem mdX_pass : zMd mX_pass 1 := ⟨(zt4 (i := 42) rfl), (zt1 (i := 1) rfl), ⟨by decide +kernel, by decide +kernel, by decide +kernel⟩, by decide +kernel, by decide +kernel⟩
theorem miX_pass : zMi mX_pass := (zt4 (i := 40) rfl)
theorem mvX_pass : zMv mX_pass := (zt4 (i := 41) rfl)
def mX_removeCode : zM := (⟨"PrefixCodeIndex", "removeCode", "(II)I"⟩, prog_1_method_4_code, 3, (some .int), [])
theorem mdX_removeCode : zMd mX_removeCode 2 := ⟨(zt3 (i := 212) rfl), (zt1 (i := 1) rfl), ⟨by decide +kernel, by decide +kernel, by decide +kernel⟩, by decide +kernel, by decide +kernel⟩
theorem miX_removeCode : zMi mX_removeCode := (zt3 (i := 210) rfl)
theorem mvX_removeCode : zMv mX_removeCode := (zt3 (i := 211) rfl)
def mX_removeEntry : zM := (⟨"PrefixCodeIndex", "removeEntry", "(I)I"⟩, prog_1_method_5_code, 2, (some .int), [])
theorem mdX_removeEntry : zMd mX_removeEntry 1 := ⟨(zt3 (i := 219) rfl), (zt1 (i := 1) rfl), ⟨by decide +kernel, by decide +kernel, by decide +kernel⟩, by decide +kernel, by decide +kernel⟩
theorem miX_removeEntry : zMi mX_removeEntry := (zt3 (i := 217) rfl)
theorem mvX_removeEntry : zMv mX_removeEntry := (zt3 (i := 218) rfl)
def mX_removedTotal : zM := (⟨"PrefixCodeIndex", "removedTotal", "()I"⟩, prog_1_method_46_code, 1, (some .int), [])
theorem mdX_removedTotal : zMd mX_removedTotal 0 := ⟨(zt2 (i := 45) rfl), (zt1 (i := 1) rfl), ⟨by decide +kernel, by decide +kernel, by decide +kernel⟩, by decide +kernel, by decide +kernel⟩
theorem miX_removedTotal : zMi mX_removedTotal := (zt2 (i := 43) rfl)
theorem mvX_removedTotal : zMv mX_removedTotal := (zt2 (i := 44) rfl)
def mX_requireCode : zM := (⟨"PrefixCodeIndex", "requireCode", "(I)V"⟩, prog_1_method_68_code, 1, none, [])
theorem mdX_requireCode : zMd mX_requireCode 1 := ⟨(zt2 (i := 199) rfl), (zt1 (i := 1) rfl), ⟨by decide +kernel, by decide +kernel, by decide +kernel⟩, by decide +kernel, by decide +kernel⟩
theorem msX_requireCode : zMs mX_requireCode := (zt2 (i := 198) rfl)
def mX_requirePrefix : zM := (⟨"PrefixCodeIndex", "requirePrefix", "(II)V"⟩, prog_1_method_69_code, 2, none, [])
theorem mdX_requirePrefix : zMd mX_requirePrefix 2 := ⟨(zt2 (i := 68) rfl), (zt1 (i := 1) rfl), ⟨by decide +kernel, by decide +kernel, by decide +kernel⟩, by decide +kernel, by decide +kernel⟩
theorem msX_requirePrefix : zMs mX_requirePrefix := (zt2 (i := 67) rfl)
def mX_restore : zM := (⟨"PrefixCodeIndex", "restore", "()I"⟩, prog_1_method_67_code, 1, (some .int), [])
theorem mdX_restore : zMd mX_restore 0 := ⟨(zt6 (i := 30) rfl), (zt1 (i := 1) rfl), ⟨by decide +kernel, by decide +kernel, by decide +kernel⟩, by decide +kernel, by decide +kernel⟩
theorem miX_restore : zMi mX_restore := (zt6 (i := 28) rfl)
theorem mvX_restore : zMv mX_restore := (zt6 (i := 29) rfl)
def mX_resultAt : zM := (⟨"PrefixCodeIndex", "resultAt", "(III)I"⟩, prog_1_method_30_code, 4, (some .int), [])
theorem mdX_resultAt : zMd mX_resultAt 3 := ⟨(zt4 (i := 137) rfl), (zt1 (i := 1) rfl), ⟨by decide +kernel, by decide +kernel, by decide +kernel⟩, by decide +kernel, by decide +kernel⟩
theorem miX_resultAt : zMi mX_resultAt := (zt4 (i := 135) rfl)
theorem mvX_resultAt : zMv mX_resultAt := (zt4 (i := 136) rfl)
def mX_resultCount : zM := (⟨"PrefixCodeIndex", "resultCount", "(II)I"⟩, prog_1_method_28_code, 3, (some .int), [])
theorem mdX_resultCount : zMd mX_resultCount 2 := ⟨(zt2 (i := 65) rfl), (zt1 (i := 1) rfl), ⟨by decide +kernel, by decide +kernel, by decide +kernel⟩, by decide +kernel, by decide +kernel⟩
theorem miX_resultCount : zMi mX_resultCount := (zt2 (i := 63) rfl)
theorem mvX_resultCount : zMv mX_resultCount := (zt2 (i := 64) rfl)
def mX_resultCountByScan : zM := (⟨"PrefixCodeIndex", "resultCountByScan", "(II)I"⟩, prog_1_method_29_code, 5, (some .int), [])
theorem mdX_resultCountByScan : zMd mX_resultCountByScan 2 := ⟨(zt2 (i := 181) rfl), (zt1 (i := 1) rfl), ⟨by decide +kernel, by decide +kernel, by decide +kernel⟩, by decide +kernel, by decide +kernel⟩
theorem miX_resultCountByScan : zMi mX_resultCountByScan := (zt2 (i := 179) rfl)
theorem mvX_resultCountByScan : zMv mX_resultCountByScan := (zt2 (i := 180) rfl)
def mX_resultCountsAgree : zM := (⟨"PrefixCodeIndex", "resultCountsAgree", "()Z"⟩, prog_1_method_52_code, 3, (some .boolean), [])
theorem mdX_resultCountsAgree : zMd mX_resultCountsAgree 0 := ⟨(zt2 (i := 61) rfl), (zt1 (i := 1) rfl), ⟨by decide +kernel, by decide +kernel, by decide +kernel⟩, by decide +kernel, by decide +kernel⟩
theorem miX_resultCountsAgree : zMi mX_resultCountsAgree := (zt2 (i := 60) rfl)
theorem mvX_resultCountsAgree : zMv mX_resultCountsAgree := (zt0 (i := 0) rfl)
def mX_run : zM := (⟨"PrefixCodeIndex", "run", "()I"⟩, prog_1_method_60_code, 3, (some .int), [])
theorem mdX_run : zMd mX_run 0 := ⟨(zt5 (i := 115) rfl), (zt1 (i := 1) rfl), ⟨by decide +kernel, by decide +kernel, by decide +kernel⟩, by decide +kernel, by decide +kernel⟩
theorem miX_run : zMi mX_run := (zt5 (i := 113) rfl)
theorem mvX_run : zMv mX_run := (zt5 (i := 114) rfl)
def mX_save : zM := (⟨"PrefixCodeIndex", "save", "()I"⟩, prog_1_method_66_code, 1, (some .int), [])
theorem mdX_save : zMd mX_save 0 := ⟨(zt3 (i := 46) rfl), (zt1 (i := 1) rfl), ⟨by decide +kernel, by decide +kernel, by decide +kernel⟩, by decide +kernel, by decide +kernel⟩
theorem miX_save : zMi mX_save := (zt3 (i := 44) rfl)
theorem mvX_save : zMv mX_save := (zt3 (i := 45) rfl)
def mX_scoreOf : zM := (⟨"PrefixCodeIndex", "scoreOf", "(III)I"⟩, prog_1_method_31_code, 5, (some .int), [])
theorem mdX_scoreOf : zMd mX_scoreOf 3 := ⟨(zt4 (i := 159) rfl), (zt1 (i := 1) rfl), ⟨by decide +kernel, by decide +kernel, by decide +kernel⟩, by decide +kernel, by decide +kernel⟩
theorem miX_scoreOf : zMi mX_scoreOf := (zt4 (i := 157) rfl)
theorem mvX_scoreOf : zMv mX_scoreOf := (zt4 (i := 158) rfl)
def mX_search : zM := (⟨"PrefixCodeIndex", "search", "(II)I"⟩, prog_1_method_10_code, 3, (some .int), [])
theorem mdX_search : zMd mX_search 2 := ⟨(zt4 (i := 35) rfl), (zt1 (i := 1) rfl), ⟨by decide +kernel, by decide +kernel, by decide +kernel⟩, by decide +kernel, by decide +kernel⟩
theorem miX_search : zMi mX_search := (zt4 (i := 33) rfl)
theorem mvX_search : zMv mX_search := (zt4 (i := 34) rfl)
def mX_segmentCount : zM := (⟨"PrefixCodeIndex", "segmentCount", "()I"⟩, prog_1_method_26_code, 1, (some .int), [])
theorem mdX_segmentCount : zMd mX_segmentCount 0 := ⟨(zt2 (i := 37) rfl), (zt1 (i := 1) rfl), ⟨by decide +kernel, by decide +kernel, by decide +kernel⟩, by decide +kernel, by decide +kernel⟩
theorem miX_segmentCount : zMi mX_segmentCount := (zt2 (i := 35) rfl)
theorem mvX_segmentCount : zMv mX_segmentCount := (zt2 (i := 36) rfl)
def mX_segmentOf : zM := (⟨"PrefixCodeIndex", "segmentOf", "(I)I"⟩, prog_1_method_20_code, 2, (some .int), [])
theorem mdX_segmentOf : zMd mX_segmentOf 1 := ⟨(zt4 (i := 86) rfl), (zt1 (i := 1) rfl), ⟨by decide +kernel, by decide +kernel, by decide +kernel⟩, by decide +kernel, by decide +kernel⟩
theorem miX_segmentOf : zMi mX_segmentOf := (zt4 (i := 84) rfl)
theorem mvX_segmentOf : zMv mX_segmentOf := (zt4 (i := 85) rfl)
def mX_sharedCodes : zM := (⟨"PrefixCodeIndex", "sharedCodes", "(II)I"⟩, prog_1_method_39_code, 3, (some .int), [])
theorem mdX_sharedCodes : zMd mX_sharedCodes 2 := ⟨(zt4 (i := 227) rfl), (zt1 (i := 1) rfl), ⟨by decide +kernel, by decide +kernel, by decide +kernel⟩, by decide +kernel, by decide +kernel⟩
theorem miX_sharedCodes : zMi mX_sharedCodes := (zt4 (i := 225) rfl)
theorem mvX_sharedCodes : zMv mX_sharedCodes := (zt4 (i := 226) rfl)
def mX_sharedDigits : zM := (⟨"PrefixCodeIndex", "sharedDigits", "(I)I"⟩, prog_1_method_34_code, 2, (some .int), [])
theorem mdX_sharedDigits : zMd mX_sharedDigits 1 := ⟨(zt2 (i := 196) rfl), (zt1 (i := 1) rfl), ⟨by decide +kernel, by decide +kernel, by decide +kernel⟩, by decide +kernel, by decide +kernel⟩
theorem miX_sharedDigits : zMi mX_sharedDigits := (zt2 (i := 194) rfl)
theorem mvX_sharedDigits : zMv mX_sharedDigits := (zt2 (i := 195) rfl)
def mX_sharedDigitsAgree : zM := (⟨"PrefixCodeIndex", "sharedDigitsAgree", "()Z"⟩, prog_1_method_53_code, 4, (some .boolean), [])
theorem mdX_sharedDigitsAgree : zMd mX_sharedDigitsAgree 0 := ⟨(zt2 (i := 192) rfl), (zt1 (i := 1) rfl), ⟨by decide +kernel, by decide +kernel, by decide +kernel⟩, by decide +kernel, by decide +kernel⟩
theorem miX_sharedDigitsAgree : zMi mX_sharedDigitsAgree := (zt2 (i := 191) rfl)
theorem mvX_sharedDigitsAgree : zMv mX_sharedDigitsAgree := (zt0 (i := 4) rfl)
def mX_sharedDigitsByScan : zM := (⟨"PrefixCodeIndex", "sharedDigitsByScan", "(I)I"⟩, prog_1_method_35_code, 6, (some .int), [])
theorem mdX_sharedDigitsByScan : zMd mX_sharedDigitsByScan 1 := ⟨(zt2 (i := 215) rfl), (zt1 (i := 1) rfl), ⟨by decide +kernel, by decide +kernel, by decide +kernel⟩, by decide +kernel, by decide +kernel⟩
theorem miX_sharedDigitsByScan : zMi mX_sharedDigitsByScan := (zt2 (i := 213) rfl)
theorem mvX_sharedDigitsByScan : zMv mX_sharedDigitsByScan := (zt2 (i := 214) rfl)
def mX_startSegment : zM := (⟨"PrefixCodeIndex", "startSegment", "()I"⟩, prog_1_method_8_code, 1, (some .int), [])
theorem mdX_startSegment : zMd mX_startSegment 0 := ⟨(zt4 (i := 0) rfl), (zt1 (i := 1) rfl), ⟨by decide +kernel, by decide +kernel, by decide +kernel⟩, by decide +kernel, by decide +kernel⟩
theorem miX_startSegment : zMi mX_startSegment := (zt3 (i := 238) rfl)
theorem mvX_startSegment : zMv mX_startSegment := (zt3 (i := 239) rfl)
def mX_throwFor : zM := (⟨"PrefixCodeIndex", "throwFor", "(I)V"⟩, prog_1_method_13_code, 1, none, [])
theorem mdX_throwFor : zMd mX_throwFor 1 := ⟨(zt3 (i := 159) rfl), (zt1 (i := 1) rfl), ⟨by decide +kernel, by decide +kernel, by decide +kernel⟩, by decide +kernel, by decide +kernel⟩
theorem msX_throwFor : zMs mX_throwFor := (zt3 (i := 158) rfl)
def mX_totalsAgree : zM := (⟨"PrefixCodeIndex", "totalsAgree", "()Z"⟩, prog_1_method_55_code, 2, (some .boolean), [])
theorem mdX_totalsAgree : zMd mX_totalsAgree 0 := ⟨(zt3 (i := 38) rfl), (zt1 (i := 1) rfl), ⟨by decide +kernel, by decide +kernel, by decide +kernel⟩, by decide +kernel, by decide +kernel⟩
theorem miX_totalsAgree : zMi mX_totalsAgree := (zt3 (i := 37) rfl)
theorem mvX_totalsAgree : zMv mX_totalsAgree := (zt0 (i := 7) rfl)
def mX_touch : zM := (⟨"PrefixCodeIndex", "touch", "(I)I"⟩, prog_1_method_6_code, 2, (some .int), [])
theorem mdX_touch : zMd mX_touch 1 := ⟨(zt3 (i := 226) rfl), (zt1 (i := 1) rfl), ⟨by decide +kernel, by decide +kernel, by decide +kernel⟩, by decide +kernel, by decide +kernel⟩
theorem miX_touch : zMi mX_touch := (zt3 (i := 224) rfl)
theorem mvX_touch : zMv mX_touch := (zt3 (i := 225) rfl)
def mX_undo : zM := (⟨"PrefixCodeIndex", "undo", "()I"⟩, prog_1_method_65_code, 1, (some .int), [])
theorem mdX_undo : zMd mX_undo 0 := ⟨(zt6 (i := 18) rfl), (zt1 (i := 1) rfl), ⟨by decide +kernel, by decide +kernel, by decide +kernel⟩, by decide +kernel, by decide +kernel⟩
theorem miX_undo : zMi mX_undo := (zt6 (i := 16) rfl)
theorem mvX_undo : zMv mX_undo := (zt6 (i := 17) rfl)
def mX_undoableCount : zM := (⟨"PrefixCodeIndex", "undoableCount", "()I"⟩, prog_1_method_64_code, 1, (some .int), [])
theorem mdX_undoableCount : zMd mX_undoableCount 0 := ⟨(zt3 (i := 42) rfl), (zt1 (i := 1) rfl), ⟨by decide +kernel, by decide +kernel, by decide +kernel⟩, by decide +kernel, by decide +kernel⟩
theorem miX_undoableCount : zMi mX_undoableCount := (zt3 (i := 40) rfl)
theorem mvX_undoableCount : zMv mX_undoableCount := (zt3 (i := 41) rfl)
def mX_weightOf : zM := (⟨"PrefixCodeIndex", "weightOf", "(I)I"⟩, prog_1_method_16_code, 2, (some .int), [])
theorem mdX_weightOf : zMd mX_weightOf 1 := ⟨(zt4 (i := 57) rfl), (zt1 (i := 1) rfl), ⟨by decide +kernel, by decide +kernel, by decide +kernel⟩, by decide +kernel, by decide +kernel⟩
theorem miX_weightOf : zMi mX_weightOf := (zt4 (i := 55) rfl)
theorem mvX_weightOf : zMv mX_weightOf := (zt4 (i := 56) rfl)
def mX_withoutEnd : zM := (⟨"PrefixCodeIndex", "withoutEnd", "(II)I"⟩, prog_1_method_73_code, 4, (some .int), [])
theorem mdX_withoutEnd : zMd mX_withoutEnd 2 := ⟨(zt2 (i := 74) rfl), (zt1 (i := 1) rfl), ⟨by decide +kernel, by decide +kernel, by decide +kernel⟩, by decide +kernel, by decide +kernel⟩
theorem msX_withoutEnd : zMs mX_withoutEnd := (zt2 (i := 73) rfl)
/-! links -/
theorem fX_12 : zF "PrefixCodeIndex" 12 7 0 true (.object "PrefixCodeIndex$Contents") := ⟨zRX, zTX, 12, rfl, by decide, (zt1 (i := 233) rfl), rfl, rfl, by decide +kernel⟩
theorem fX_16 : zF "PrefixCodeIndex" 16 7 1 true (.object "PrefixCodeIndex$Contents") := ⟨zRX, zTX, 12, rfl, by decide, (zt1 (i := 234) rfl), rfl, rfl, by decide +kernel⟩
theorem fX_22 : zF "PrefixCodeIndex" 22 7 2 true (.object "PrefixCodeIndex$History") := ⟨zRX, zTX, 12, rfl, by decide, (zt1 (i := 235) rfl), rfl, rfl, by decide +kernel⟩
theorem fX_29 : zF "PrefixCodeIndex" 29 7 3 true (.object "PrefixCodeIndex$Trie") := ⟨zRX, zTX, 12, rfl, by decide, (zt1 (i := 236) rfl), rfl, rfl, by decide +kernel⟩
theorem fX_36 : zF "PrefixCodeIndex" 36 7 4 true (.object "PrefixCodeIndex$Ranking") := ⟨zRX, zTX, 12, rfl, by decide, (zt1 (i := 237) rfl), rfl, rfl, by decide +kernel⟩
theorem fX_43 : zF "PrefixCodeIndex" 43 7 5 true (.object "PrefixCodeIndex$Program") := ⟨zRX, zTX, 12, rfl, by decide, (zt1 (i := 238) rfl), rfl, rfl, by decide +kernel⟩
theorem fX_50 : zF "PrefixCodeIndex" 50 7 6 true (.object "PrefixCodeIndex$Line") := ⟨zRX, zTX, 12, rfl, by decide, (zt1 (i := 239) rfl), rfl, rfl, by decide +kernel⟩
theorem fX_57 : zF "PrefixCodeIndex" 57 7 7 true (.object "PrefixCodeIndex$Entry") := ⟨zRX, zTX, 12, rfl, by decide, (zt2 (i := 0) rfl), rfl, rfl, by decide +kernel⟩
theorem fX_61 : zF "PrefixCodeIndex" 61 7 8 false .boolean := ⟨zRX, zTX, 12, rfl, by decide, (zt2 (i := 1) rfl), rfl, rfl, by decide +kernel⟩
theorem fX_65 : zF "PrefixCodeIndex" 65 7 9 false .boolean := ⟨zRX, zTX, 12, rfl, by decide, (zt2 (i := 2) rfl), rfl, rfl, by decide +kernel⟩
theorem fX_68 : zF "PrefixCodeIndex" 68 7 10 false .int := ⟨zRX, zTX, 12, rfl, by decide, (zt2 (i := 3) rfl), rfl, rfl, by decide +kernel⟩
theorem fX_72 : zF "PrefixCodeIndex" 72 7 11 false .int := ⟨zRX, zTX, 12, rfl, by decide, (zt2 (i := 4) rfl), rfl, rfl, by decide +kernel⟩
theorem fX_115 : zF "PrefixCodeIndex" 115 0 1 false .int := ⟨zRC, zTC, 8, rfl, by decide, (zt1 (i := 92) rfl), rfl, rfl, by decide +kernel⟩
theorem fX_120 : zF "PrefixCodeIndex" 120 0 0 true (.array (.object "PrefixCodeIndex$Entry")) := ⟨zRC, zTC, 8, rfl, by decide, (zt1 (i := 88) rfl), rfl, rfl, by decide +kernel⟩
theorem fX_124 : zF "PrefixCodeIndex" 124 1 0 false .int := ⟨zRE, zTE, 7, rfl, by decide, (zt1 (i := 50) rfl), rfl, rfl, by decide +kernel⟩
theorem fX_131 : zF "PrefixCodeIndex" 131 1 1 false .int := ⟨zRE, zTE, 7, rfl, by decide, (zt1 (i := 52) rfl), rfl, rfl, by decide +kernel⟩
theorem fX_134 : zF "PrefixCodeIndex" 134 1 2 false .int := ⟨zRE, zTE, 7, rfl, by decide, (zt1 (i := 55) rfl), rfl, rfl, by decide +kernel⟩
theorem fX_137 : zF "PrefixCodeIndex" 137 1 3 false .int := ⟨zRE, zTE, 7, rfl, by decide, (zt1 (i := 58) rfl), rfl, rfl, by decide +kernel⟩
theorem fX_144 : zF "PrefixCodeIndex" 144 1 4 false .int := ⟨zRE, zTE, 7, rfl, by decide, (zt1 (i := 61) rfl), rfl, rfl, by decide +kernel⟩
theorem fX_147 : zF "PrefixCodeIndex" 147 1 5 false .int := ⟨zRE, zTE, 7, rfl, by decide, (zt1 (i := 65) rfl), rfl, rfl, by decide +kernel⟩
theorem fX_150 : zF "PrefixCodeIndex" 150 1 6 true (.array .int) := ⟨zRE, zTE, 7, rfl, by decide, (zt1 (i := 68) rfl), rfl, rfl, by decide +kernel⟩
theorem fX_172 : zF "PrefixCodeIndex" 172 0 3 false .int := ⟨zRC, zTC, 8, rfl, by decide, (zt1 (i := 95) rfl), rfl, rfl, by decide +kernel⟩
theorem fX_190 : zF "PrefixCodeIndex" 190 5 2 false .int := ⟨zRR, zTR, 3, rfl, by decide, (zt1 (i := 165) rfl), rfl, rfl, by decide +kernel⟩
theorem fX_193 : zF "PrefixCodeIndex" 193 5 0 true (.array .int) := ⟨zRR, zTR, 3, rfl, by decide, (zt1 (i := 161) rfl), rfl, rfl, by decide +kernel⟩
theorem fX_255 : zF "PrefixCodeIndex" 255 0 4 false .int := ⟨zRC, zTC, 8, rfl, by decide, (zt1 (i := 97) rfl), rfl, rfl, by decide +kernel⟩
theorem fX_258 : zF "PrefixCodeIndex" 258 0 5 false .int := ⟨zRC, zTC, 8, rfl, by decide, (zt1 (i := 99) rfl), rfl, rfl, by decide +kernel⟩
theorem fX_261 : zF "PrefixCodeIndex" 261 0 6 false .int := ⟨zRC, zTC, 8, rfl, by decide, (zt1 (i := 101) rfl), rfl, rfl, by decide +kernel⟩
theorem fX_264 : zF "PrefixCodeIndex" 264 0 7 false .int := ⟨zRC, zTC, 8, rfl, by decide, (zt1 (i := 103) rfl), rfl, rfl, by decide +kernel⟩
theorem fX_318 : zF "PrefixCodeIndex" 318 3 2 false .int := ⟨zRL, zTL, 3, rfl, by decide, (zt1 (i := 223) rfl), rfl, rfl, by decide +kernel⟩
theorem fX_324 : zF "PrefixCodeIndex" 324 5 1 true (.array .int) := ⟨zRR, zTR, 3, rfl, by decide, (zt1 (i := 163) rfl), rfl, rfl, by decide +kernel⟩
theorem fX_329 : zF "PrefixCodeIndex" 329 3 0 true (.array .char) := ⟨zRL, zTL, 3, rfl, by decide, (zt1 (i := 220) rfl), rfl, rfl, by decide +kernel⟩
theorem fX_335 : zF "PrefixCodeIndex" 335 4 1 false .int := ⟨zRP, zTP, 9, rfl, by decide, (zt1 (i := 181) rfl), rfl, rfl, by decide +kernel⟩
theorem fX_356 : zF "PrefixCodeIndex" 356 4 8 false .int := ⟨zRP, zTP, 9, rfl, by decide, (zt1 (i := 192) rfl), rfl, rfl, by decide +kernel⟩
theorem fX_359 : zF "PrefixCodeIndex" 359 4 5 true (.array .int) := ⟨zRP, zTP, 9, rfl, by decide, (zt1 (i := 186) rfl), rfl, rfl, by decide +kernel⟩
theorem fX_362 : zF "PrefixCodeIndex" 362 4 6 true (.array .int) := ⟨zRP, zTP, 9, rfl, by decide, (zt1 (i := 188) rfl), rfl, rfl, by decide +kernel⟩
theorem fX_365 : zF "PrefixCodeIndex" 365 4 7 true (.array .int) := ⟨zRP, zTP, 9, rfl, by decide, (zt1 (i := 190) rfl), rfl, rfl, by decide +kernel⟩
theorem fX_372 : zF "PrefixCodeIndex" 372 2 2 false .int := ⟨zRH, zTH, 3, rfl, by decide, (zt1 (i := 133) rfl), rfl, rfl, by decide +kernel⟩
theorem fC_11 : zF "PrefixCodeIndex$Contents" 11 0 0 true (.array (.object "PrefixCodeIndex$Entry")) := ⟨zRC, zTC, 8, rfl, by decide, (zt1 (i := 85) rfl), rfl, rfl, by decide +kernel⟩
theorem fC_17 : zF "PrefixCodeIndex$Contents" 17 0 1 false .int := ⟨zRC, zTC, 8, rfl, by decide, (zt1 (i := 89) rfl), rfl, rfl, by decide +kernel⟩
theorem fC_21 : zF "PrefixCodeIndex$Contents" 21 0 2 false .int := ⟨zRC, zTC, 8, rfl, by decide, (zt1 (i := 93) rfl), rfl, rfl, by decide +kernel⟩
theorem fC_24 : zF "PrefixCodeIndex$Contents" 24 0 3 false .int := ⟨zRC, zTC, 8, rfl, by decide, (zt1 (i := 94) rfl), rfl, rfl, by decide +kernel⟩
theorem fC_27 : zF "PrefixCodeIndex$Contents" 27 0 4 false .int := ⟨zRC, zTC, 8, rfl, by decide, (zt1 (i := 96) rfl), rfl, rfl, by decide +kernel⟩
theorem fC_30 : zF "PrefixCodeIndex$Contents" 30 0 5 false .int := ⟨zRC, zTC, 8, rfl, by decide, (zt1 (i := 98) rfl), rfl, rfl, by decide +kernel⟩
theorem fC_33 : zF "PrefixCodeIndex$Contents" 33 0 6 false .int := ⟨zRC, zTC, 8, rfl, by decide, (zt1 (i := 100) rfl), rfl, rfl, by decide +kernel⟩
theorem fC_36 : zF "PrefixCodeIndex$Contents" 36 0 7 false .int := ⟨zRC, zTC, 8, rfl, by decide, (zt1 (i := 102) rfl), rfl, rfl, by decide +kernel⟩
theorem fC_44 : zF "PrefixCodeIndex$Contents" 44 1 0 false .int := ⟨zRE, zTE, 7, rfl, by decide, (zt1 (i := 49) rfl), rfl, rfl, by decide +kernel⟩
theorem fC_95 : zF "PrefixCodeIndex$Contents" 95 1 5 false .int := ⟨zRE, zTE, 7, rfl, by decide, (zt1 (i := 63) rfl), rfl, rfl, by decide +kernel⟩
theorem fC_108 : zF "PrefixCodeIndex$Contents" 108 1 2 false .int := ⟨zRE, zTE, 7, rfl, by decide, (zt1 (i := 54) rfl), rfl, rfl, by decide +kernel⟩
theorem fC_118 : zF "PrefixCodeIndex$Contents" 118 1 4 false .int := ⟨zRE, zTE, 7, rfl, by decide, (zt1 (i := 60) rfl), rfl, rfl, by decide +kernel⟩
theorem fC_128 : zF "PrefixCodeIndex$Contents" 128 1 3 false .int := ⟨zRE, zTE, 7, rfl, by decide, (zt1 (i := 57) rfl), rfl, rfl, by decide +kernel⟩
theorem fE_9 : zF "PrefixCodeIndex$Entry" 9 1 6 true (.array .int) := ⟨zRE, zTE, 7, rfl, by decide, (zt1 (i := 66) rfl), rfl, rfl, by decide +kernel⟩
theorem fE_15 : zF "PrefixCodeIndex$Entry" 15 1 0 false .int := ⟨zRE, zTE, 7, rfl, by decide, (zt1 (i := 47) rfl), rfl, rfl, by decide +kernel⟩
theorem fE_19 : zF "PrefixCodeIndex$Entry" 19 1 1 false .int := ⟨zRE, zTE, 7, rfl, by decide, (zt1 (i := 51) rfl), rfl, rfl, by decide +kernel⟩
theorem fE_22 : zF "PrefixCodeIndex$Entry" 22 1 2 false .int := ⟨zRE, zTE, 7, rfl, by decide, (zt1 (i := 53) rfl), rfl, rfl, by decide +kernel⟩
theorem fE_25 : zF "PrefixCodeIndex$Entry" 25 1 3 false .int := ⟨zRE, zTE, 7, rfl, by decide, (zt1 (i := 56) rfl), rfl, rfl, by decide +kernel⟩
theorem fE_28 : zF "PrefixCodeIndex$Entry" 28 1 4 false .int := ⟨zRE, zTE, 7, rfl, by decide, (zt1 (i := 59) rfl), rfl, rfl, by decide +kernel⟩
theorem fE_31 : zF "PrefixCodeIndex$Entry" 31 1 5 false .int := ⟨zRE, zTE, 7, rfl, by decide, (zt1 (i := 62) rfl), rfl, rfl, by decide +kernel⟩
theorem fH_13 : zF "PrefixCodeIndex$History" 13 2 0 true (.array (.object "PrefixCodeIndex$Contents")) := ⟨zRH, zTH, 3, rfl, by decide, (zt1 (i := 130) rfl), rfl, rfl, by decide +kernel⟩
theorem fH_17 : zF "PrefixCodeIndex$History" 17 2 1 false .int := ⟨zRH, zTH, 3, rfl, by decide, (zt1 (i := 131) rfl), rfl, rfl, by decide +kernel⟩
theorem fH_21 : zF "PrefixCodeIndex$History" 21 2 2 false .int := ⟨zRH, zTH, 3, rfl, by decide, (zt1 (i := 132) rfl), rfl, rfl, by decide +kernel⟩
theorem fL_9 : zF "PrefixCodeIndex$Line" 9 3 0 true (.array .char) := ⟨zRL, zTL, 3, rfl, by decide, (zt1 (i := 219) rfl), rfl, rfl, by decide +kernel⟩
theorem fL_15 : zF "PrefixCodeIndex$Line" 15 3 1 true (.array .char) := ⟨zRL, zTL, 3, rfl, by decide, (zt1 (i := 221) rfl), rfl, rfl, by decide +kernel⟩
theorem fL_18 : zF "PrefixCodeIndex$Line" 18 3 2 false .int := ⟨zRL, zTL, 3, rfl, by decide, (zt1 (i := 222) rfl), rfl, rfl, by decide +kernel⟩
theorem fP_9 : zF "PrefixCodeIndex$Program" 9 4 0 true (.array .char) := ⟨zRP, zTP, 9, rfl, by decide, (zt1 (i := 179) rfl), rfl, rfl, by decide +kernel⟩
theorem fP_15 : zF "PrefixCodeIndex$Program" 15 4 1 false .int := ⟨zRP, zTP, 9, rfl, by decide, (zt1 (i := 180) rfl), rfl, rfl, by decide +kernel⟩
theorem fP_19 : zF "PrefixCodeIndex$Program" 19 4 2 false .int := ⟨zRP, zTP, 9, rfl, by decide, (zt1 (i := 182) rfl), rfl, rfl, by decide +kernel⟩
theorem fP_22 : zF "PrefixCodeIndex$Program" 22 4 3 false .int := ⟨zRP, zTP, 9, rfl, by decide, (zt1 (i := 183) rfl), rfl, rfl, by decide +kernel⟩
theorem fP_25 : zF "PrefixCodeIndex$Program" 25 4 4 false .int := ⟨zRP, zTP, 9, rfl, by decide, (zt1 (i := 184) rfl), rfl, rfl, by decide +kernel⟩
theorem fP_28 : zF "PrefixCodeIndex$Program" 28 4 5 true (.array .int) := ⟨zRP, zTP, 9, rfl, by decide, (zt1 (i := 185) rfl), rfl, rfl, by decide +kernel⟩
theorem fP_32 : zF "PrefixCodeIndex$Program" 32 4 6 true (.array .int) := ⟨zRP, zTP, 9, rfl, by decide, (zt1 (i := 187) rfl), rfl, rfl, by decide +kernel⟩
theorem fP_35 : zF "PrefixCodeIndex$Program" 35 4 7 true (.array .int) := ⟨zRP, zTP, 9, rfl, by decide, (zt1 (i := 189) rfl), rfl, rfl, by decide +kernel⟩
theorem fP_38 : zF "PrefixCodeIndex$Program" 38 4 8 false .int := ⟨zRP, zTP, 9, rfl, by decide, (zt1 (i := 191) rfl), rfl, rfl, by decide +kernel⟩
theorem fR_9 : zF "PrefixCodeIndex$Ranking" 9 5 0 true (.array .int) := ⟨zRR, zTR, 3, rfl, by decide, (zt1 (i := 160) rfl), rfl, rfl, by decide +kernel⟩
theorem fR_15 : zF "PrefixCodeIndex$Ranking" 15 5 1 true (.array .int) := ⟨zRR, zTR, 3, rfl, by decide, (zt1 (i := 162) rfl), rfl, rfl, by decide +kernel⟩
theorem fR_18 : zF "PrefixCodeIndex$Ranking" 18 5 2 false .int := ⟨zRR, zTR, 3, rfl, by decide, (zt1 (i := 164) rfl), rfl, rfl, by decide +kernel⟩
theorem fR_22 : zF "PrefixCodeIndex$Ranking" 22 0 1 false .int := ⟨zRC, zTC, 8, rfl, by decide, (zt1 (i := 90) rfl), rfl, rfl, by decide +kernel⟩
theorem fR_27 : zF "PrefixCodeIndex$Ranking" 27 0 0 true (.array (.object "PrefixCodeIndex$Entry")) := ⟨zRC, zTC, 8, rfl, by decide, (zt1 (i := 86) rfl), rfl, rfl, by decide +kernel⟩
theorem fR_37 : zF "PrefixCodeIndex$Ranking" 37 1 0 false .int := ⟨zRE, zTE, 7, rfl, by decide, (zt1 (i := 48) rfl), rfl, rfl, by decide +kernel⟩
theorem fT_11 : zF "PrefixCodeIndex$Trie" 11 6 0 true (.array .int) := ⟨zRT, zTT, 2, rfl, by decide, (zt1 (i := 147) rfl), rfl, rfl, by decide +kernel⟩
theorem fT_15 : zF "PrefixCodeIndex$Trie" 15 6 1 true (.array .int) := ⟨zRT, zTT, 2, rfl, by decide, (zt1 (i := 148) rfl), rfl, rfl, by decide +kernel⟩
theorem fT_35 : zF "PrefixCodeIndex$Trie" 35 0 1 false .int := ⟨zRC, zTC, 8, rfl, by decide, (zt1 (i := 91) rfl), rfl, rfl, by decide +kernel⟩
theorem fT_41 : zF "PrefixCodeIndex$Trie" 41 0 0 true (.array (.object "PrefixCodeIndex$Entry")) := ⟨zRC, zTC, 8, rfl, by decide, (zt1 (i := 87) rfl), rfl, rfl, by decide +kernel⟩
theorem fT_45 : zF "PrefixCodeIndex$Trie" 45 1 5 false .int := ⟨zRE, zTE, 7, rfl, by decide, (zt1 (i := 64) rfl), rfl, rfl, by decide +kernel⟩
theorem fT_50 : zF "PrefixCodeIndex$Trie" 50 1 6 true (.array .int) := ⟨zRE, zTE, 7, rfl, by decide, (zt1 (i := 67) rfl), rfl, rfl, by decide +kernel⟩
theorem fM_9 : zF "PrefixCodeIndexModel" 9 8 0 true (.array .int) := ⟨zRM, zTM, 21, rfl, by decide, (zt6 (i := 42) rfl), rfl, rfl, by decide +kernel⟩
theorem fM_13 : zF "PrefixCodeIndexModel" 13 8 1 true (.array .int) := ⟨zRM, zTM, 21, rfl, by decide, (zt6 (i := 43) rfl), rfl, rfl, by decide +kernel⟩
theorem fM_16 : zF "PrefixCodeIndexModel" 16 8 2 true (.array .int) := ⟨zRM, zTM, 21, rfl, by decide, (zt6 (i := 44) rfl), rfl, rfl, by decide +kernel⟩
theorem fM_19 : zF "PrefixCodeIndexModel" 19 8 4 true (.array .int) := ⟨zRM, zTM, 21, rfl, by decide, (zt6 (i := 46) rfl), rfl, rfl, by decide +kernel⟩
theorem fM_22 : zF "PrefixCodeIndexModel" 22 8 6 false .int := ⟨zRM, zTM, 21, rfl, by decide, (zt6 (i := 48) rfl), rfl, rfl, by decide +kernel⟩
theorem fM_26 : zF "PrefixCodeIndexModel" 26 8 7 false .int := ⟨zRM, zTM, 21, rfl, by decide, (zt6 (i := 49) rfl), rfl, rfl, by decide +kernel⟩
theorem fM_29 : zF "PrefixCodeIndexModel" 29 8 9 true (.array .int) := ⟨zRM, zTM, 21, rfl, by decide, (zt6 (i := 51) rfl), rfl, rfl, by decide +kernel⟩
theorem fM_32 : zF "PrefixCodeIndexModel" 32 8 11 true (.array .int) := ⟨zRM, zTM, 21, rfl, by decide, (zt6 (i := 53) rfl), rfl, rfl, by decide +kernel⟩
theorem fM_35 : zF "PrefixCodeIndexModel" 35 8 13 true (.array .char) := ⟨zRM, zTM, 21, rfl, by decide, (zt6 (i := 55) rfl), rfl, rfl, by decide +kernel⟩
theorem fM_39 : zF "PrefixCodeIndexModel" 39 8 14 true (.array .int) := ⟨zRM, zTM, 21, rfl, by decide, (zt6 (i := 56) rfl), rfl, rfl, by decide +kernel⟩
theorem fM_42 : zF "PrefixCodeIndexModel" 42 8 15 true (.array .int) := ⟨zRM, zTM, 21, rfl, by decide, (zt6 (i := 57) rfl), rfl, rfl, by decide +kernel⟩
theorem fM_45 : zF "PrefixCodeIndexModel" 45 8 8 false .int := ⟨zRM, zTM, 21, rfl, by decide, (zt6 (i := 50) rfl), rfl, rfl, by decide +kernel⟩
theorem fM_48 : zF "PrefixCodeIndexModel" 48 8 5 false .int := ⟨zRM, zTM, 21, rfl, by decide, (zt6 (i := 47) rfl), rfl, rfl, by decide +kernel⟩
theorem fM_180 : zF "PrefixCodeIndexModel" 180 8 12 false .int := ⟨zRM, zTM, 21, rfl, by decide, (zt6 (i := 54) rfl), rfl, rfl, by decide +kernel⟩
theorem fM_199 : zF "PrefixCodeIndexModel" 199 8 10 false .int := ⟨zRM, zTM, 21, rfl, by decide, (zt6 (i := 52) rfl), rfl, rfl, by decide +kernel⟩
theorem fM_202 : zF "PrefixCodeIndexModel" 202 8 17 false .int := ⟨zRM, zTM, 21, rfl, by decide, (zt6 (i := 59) rfl), rfl, rfl, by decide +kernel⟩
theorem fM_205 : zF "PrefixCodeIndexModel" 205 8 18 false .int := ⟨zRM, zTM, 21, rfl, by decide, (zt6 (i := 60) rfl), rfl, rfl, by decide +kernel⟩
theorem fM_208 : zF "PrefixCodeIndexModel" 208 8 19 false .boolean := ⟨zRM, zTM, 21, rfl, by decide, (zt6 (i := 61) rfl), rfl, rfl, by decide +kernel⟩
theorem fM_222 : zF "PrefixCodeIndexModel" 222 8 20 false .int := ⟨zRM, zTM, 21, rfl, by decide, (zt6 (i := 62) rfl), rfl, rfl, by decide +kernel⟩
theorem fM_234 : zF "PrefixCodeIndexModel" 234 8 16 false .int := ⟨zRM, zTM, 21, rfl, by decide, (zt6 (i := 58) rfl), rfl, rfl, by decide +kernel⟩
theorem fM_249 : zF "PrefixCodeIndexModel" 249 8 3 false .boolean := ⟨zRM, zTM, 21, rfl, by decide, (zt6 (i := 45) rfl), rfl, rfl, by decide +kernel⟩
theorem kX_3 : Cond.methodLink "PrefixCodeIndex" 3 ⟨"java/lang/Object", "<init>", "()V"⟩ ∈ lw_tbl := (zt1 (i := 31) rfl)
theorem kX_11 : Cond.methodLink "PrefixCodeIndex" 11 (zy mC_init) ∈ lw_tbl := (zt1 (i := 36) rfl)
theorem kX_21 : Cond.methodLink "PrefixCodeIndex" 21 (zy mH_init) ∈ lw_tbl := (zt1 (i := 123) rfl)
theorem kX_75 : Cond.methodLink "PrefixCodeIndex" 75 (zy mX_change) ∈ lw_tbl := (zt3 (i := 61) rfl)
theorem kX_79 : Cond.methodLink "PrefixCodeIndex" 79 (zy mH_mark) ∈ lw_tbl := (zt3 (i := 65) rfl)
theorem kX_83 : Cond.methodLink "PrefixCodeIndex" 83 (zy mC_perform) ∈ lw_tbl := (zt3 (i := 70) rfl)
theorem kX_86 : Cond.methodLink "PrefixCodeIndex" 86 (zy mX_throwFor) ∈ lw_tbl := (zt3 (i := 157) rfl)
theorem kX_90 : Cond.methodLink "PrefixCodeIndex" 90 (zy mH_keepMark) ∈ lw_tbl := (zt3 (i := 193) rfl)
theorem kX_97 : Cond.methodLink "PrefixCodeIndex" 97 ⟨"java/util/NoSuchElementException", "<init>", "(Ljava/lang/String;)V"⟩ ∈ lw_tbl := (zt3 (i := 6) rfl)
theorem kX_104 : Cond.methodLink "PrefixCodeIndex" 104 ⟨"java/lang/IllegalArgumentException", "<init>", "(Ljava/lang/String;)V"⟩ ∈ lw_tbl := (zt2 (i := 120) rfl)
theorem kX_109 : Cond.methodLink "PrefixCodeIndex" 109 ⟨"java/lang/IndexOutOfBoundsException", "<init>", "(Ljava/lang/String;)V"⟩ ∈ lw_tbl := (zt3 (i := 171) rfl)
theorem kX_114 : Cond.methodLink "PrefixCodeIndex" 114 ⟨"java/lang/IllegalStateException", "<init>", "(Ljava/lang/String;)V"⟩ ∈ lw_tbl := (zt3 (i := 187) rfl)
theorem kX_127 : Cond.methodLink "PrefixCodeIndex" 127 (zy mX_existing) ∈ lw_tbl := (zt2 (i := 228) rfl)
theorem kX_140 : Cond.methodLink "PrefixCodeIndex" 140 (zy mE_lifetime) ∈ lw_tbl := (zt4 (i := 79) rfl)
theorem kX_154 : Cond.methodLink "PrefixCodeIndex" 154 (zy mX_requireCode) ∈ lw_tbl := (zt2 (i := 197) rfl)
theorem kX_157 : Cond.methodLink "PrefixCodeIndex" 157 (zy mE_holds) ∈ lw_tbl := (zt4 (i := 108) rfl)
theorem kX_161 : Cond.methodLink "PrefixCodeIndex" 161 (zy mX_requirePrefix) ∈ lw_tbl := (zt2 (i := 66) rfl)
theorem kX_165 : Cond.methodLink "PrefixCodeIndex" 165 (zy mE_countWith) ∈ lw_tbl := (zt2 (i := 182) rfl)
theorem kX_169 : Cond.methodLink "PrefixCodeIndex" 169 (zy mC_find) ∈ lw_tbl := (zt2 (i := 232) rfl)
theorem kX_175 : Cond.methodLink "PrefixCodeIndex" 175 (zy mX_freshTrie) ∈ lw_tbl := (zt2 (i := 146) rfl)
theorem kX_179 : Cond.methodLink "PrefixCodeIndex" 179 (zy mT_nodeOf) ∈ lw_tbl := (zt2 (i := 174) rfl)
theorem kX_182 : Cond.methodLink "PrefixCodeIndex" 182 (zy mT_entriesAt) ∈ lw_tbl := (zt2 (i := 177) rfl)
theorem kX_186 : Cond.methodLink "PrefixCodeIndex" 186 (zy mR_order) ∈ lw_tbl := (zt4 (i := 138) rfl)
theorem kX_196 : Cond.methodLink "PrefixCodeIndex" 196 (zy mE_score) ∈ lw_tbl := (zt4 (i := 160) rfl)
theorem kX_199 : Cond.methodLink "PrefixCodeIndex" 199 (zy mT_codesAt) ∈ lw_tbl := (zt4 (i := 168) rfl)
theorem kX_204 : Cond.methodLink "PrefixCodeIndex" 204 (zy mT_branchesAt) ∈ lw_tbl := (zt4 (i := 177) rfl)
theorem kX_207 : Cond.methodLink "PrefixCodeIndex" 207 (zy mT_depthReachedBy) ∈ lw_tbl := (zt2 (i := 204) rfl)
theorem kX_210 : Cond.methodLink "PrefixCodeIndex" 210 (zy mX_commonDigits) ∈ lw_tbl := (zt2 (i := 216) rfl)
theorem kX_213 : Cond.methodLink "PrefixCodeIndex" 213 (zy mN_max) ∈ lw_tbl := (zt2 (i := 217) rfl)
theorem kX_220 : Cond.methodLink "PrefixCodeIndex" 220 (zy mE_lowestAbove) ∈ lw_tbl := (zt4 (i := 203) rfl)
theorem kX_223 : Cond.methodLink "PrefixCodeIndex" 223 (zy mN_min) ∈ lw_tbl := (zt4 (i := 207) rfl)
theorem kX_228 : Cond.methodLink "PrefixCodeIndex" 228 (zy mT_commonestLeaf) ∈ lw_tbl := (zt4 (i := 216) rfl)
theorem kX_233 : Cond.methodLink "PrefixCodeIndex" 233 (zy mE_countShared) ∈ lw_tbl := (zt4 (i := 228) rfl)
theorem kX_239 : Cond.methodLink "PrefixCodeIndex" 239 (zy mT_build) ∈ lw_tbl := (zt2 (i := 150) rfl)
theorem kX_242 : Cond.methodLink "PrefixCodeIndex" 242 (zy mE_daysLeft) ∈ lw_tbl := (zt3 (i := 12) rfl)
theorem kX_245 : Cond.methodLink "PrefixCodeIndex" 245 (zy mE_copyFrom) ∈ lw_tbl := (zt3 (i := 24) rfl)
theorem kX_249 : Cond.methodLink "PrefixCodeIndex" 249 (zy mE_hasFaded) ∈ lw_tbl := (zt3 (i := 31) rfl)
theorem kX_271 : Cond.methodLink "PrefixCodeIndex" 271 ⟨"java/lang/ArithmeticException", "<init>", "(Ljava/lang/String;)V"⟩ ∈ lw_tbl := (zt5 (i := 36) rfl)
theorem kX_274 : Cond.methodLink "PrefixCodeIndex" 274 (zy mX_resultCountsAgree) ∈ lw_tbl := (zt2 (i := 58) rfl)
theorem kX_277 : Cond.methodLink "PrefixCodeIndex" 277 (zy mX_sharedDigitsAgree) ∈ lw_tbl := (zt2 (i := 189) rfl)
theorem kX_280 : Cond.methodLink "PrefixCodeIndex" 280 (zy mX_fadingAgrees) ∈ lw_tbl := (zt2 (i := 220) rfl)
theorem kX_283 : Cond.methodLink "PrefixCodeIndex" 283 (zy mX_totalsAgree) ∈ lw_tbl := (zt3 (i := 35) rfl)
theorem kX_286 : Cond.methodLink "PrefixCodeIndex" 286 (zy mX_resultCount) ∈ lw_tbl := (zt2 (i := 62) rfl)
theorem kX_289 : Cond.methodLink "PrefixCodeIndex" 289 (zy mX_resultCountByScan) ∈ lw_tbl := (zt2 (i := 178) rfl)
theorem kX_292 : Cond.methodLink "PrefixCodeIndex" 292 (zy mX_sharedDigits) ∈ lw_tbl := (zt2 (i := 193) rfl)
theorem kX_295 : Cond.methodLink "PrefixCodeIndex" 295 (zy mX_sharedDigitsByScan) ∈ lw_tbl := (zt2 (i := 212) rfl)
theorem kX_298 : Cond.methodLink "PrefixCodeIndex" 298 (zy mX_daysUntilFaded) ∈ lw_tbl := (zt2 (i := 224) rfl)
theorem kX_301 : Cond.methodLink "PrefixCodeIndex" 301 (zy mX_daysUntilFadedByDays) ∈ lw_tbl := (zt3 (i := 20) rfl)
theorem kX_304 : Cond.methodLink "PrefixCodeIndex" 304 (zy mL_clear) ∈ lw_tbl := (zt5 (i := 52) rfl)
theorem kX_307 : Cond.methodLink "PrefixCodeIndex" 307 (zy mL_putField) ∈ lw_tbl := (zt5 (i := 56) rfl)
theorem kX_311 : Cond.methodLink "PrefixCodeIndex" 311 (zy mL_put) ∈ lw_tbl := (zt5 (i := 74) rfl)
theorem kX_315 : Cond.methodLink "PrefixCodeIndex" 315 (zy mL_putCode) ∈ lw_tbl := (zt5 (i := 75) rfl)
theorem kX_321 : Cond.methodLink "PrefixCodeIndex" 321 (zy mL_putNumber) ∈ lw_tbl := (zt5 (i := 87) rfl)
theorem kX_338 : Cond.methodLink "PrefixCodeIndex" 338 (zy mP_add) ∈ lw_tbl := (zt5 (i := 105) rfl)
theorem kX_342 : Cond.methodLink "PrefixCodeIndex" 342 (zy mP_read) ∈ lw_tbl := (zt5 (i := 116) rfl)
theorem kX_345 : Cond.methodLink "PrefixCodeIndex" 345 (zy mP_clear) ∈ lw_tbl := (zt5 (i := 222) rfl)
theorem kX_348 : Cond.methodLink "PrefixCodeIndex" 348 (zy mX_firstFailing) ∈ lw_tbl := (zt5 (i := 227) rfl)
theorem kX_351 : Cond.methodLink "PrefixCodeIndex" 351 (zy mH_returnToMark) ∈ lw_tbl := (zt5 (i := 231) rfl)
theorem kX_375 : Cond.methodLink "PrefixCodeIndex" 375 (zy mH_takeBack) ∈ lw_tbl := (zt6 (i := 20) rfl)
theorem kX_378 : Cond.methodLink "PrefixCodeIndex" 378 (zy mC_copyFrom) ∈ lw_tbl := (zt3 (i := 47) rfl)
theorem kX_382 : Cond.methodLink "PrefixCodeIndex" 382 (zy mH_forget) ∈ lw_tbl := (zt6 (i := 32) rfl)
theorem kX_385 : Cond.methodLink "PrefixCodeIndex" 385 (zy mX_isCode) ∈ lw_tbl := (zt2 (i := 200) rfl)
theorem kX_388 : Cond.methodLink "PrefixCodeIndex" 388 (zy mX_isPrefix) ∈ lw_tbl := (zt2 (i := 69) rfl)
theorem kX_394 : Cond.methodLink "PrefixCodeIndex" 394 (zy mX_withoutEnd) ∈ lw_tbl := (zt2 (i := 72) rfl)
theorem kC_3 : Cond.methodLink "PrefixCodeIndex$Contents" 3 ⟨"java/lang/Object", "<init>", "()V"⟩ ∈ lw_tbl := (zt1 (i := 39) rfl)
theorem kC_40 : Cond.methodLink "PrefixCodeIndex$Contents" 40 (zy mE_copyFrom) ∈ lw_tbl := (zt3 (i := 51) rfl)
theorem kC_47 : Cond.methodLink "PrefixCodeIndex$Contents" 47 (zy mC_putEntry) ∈ lw_tbl := (zt3 (i := 74) rfl)
theorem kC_51 : Cond.methodLink "PrefixCodeIndex$Contents" 51 (zy mC_putCode) ∈ lw_tbl := (zt3 (i := 82) rfl)
theorem kC_55 : Cond.methodLink "PrefixCodeIndex$Contents" 55 (zy mC_takeCode) ∈ lw_tbl := (zt3 (i := 96) rfl)
theorem kC_58 : Cond.methodLink "PrefixCodeIndex$Contents" 58 (zy mC_takeEntry) ∈ lw_tbl := (zt3 (i := 104) rfl)
theorem kC_61 : Cond.methodLink "PrefixCodeIndex$Contents" 61 (zy mC_freshen) ∈ lw_tbl := (zt3 (i := 112) rfl)
theorem kC_64 : Cond.methodLink "PrefixCodeIndex$Contents" 64 (zy mC_mergeInto) ∈ lw_tbl := (zt3 (i := 116) rfl)
theorem kC_67 : Cond.methodLink "PrefixCodeIndex$Contents" 67 (zy mC_openSegment) ∈ lw_tbl := (zt3 (i := 134) rfl)
theorem kC_71 : Cond.methodLink "PrefixCodeIndex$Contents" 71 (zy mC_joinWithNext) ∈ lw_tbl := (zt3 (i := 138) rfl)
theorem kC_74 : Cond.methodLink "PrefixCodeIndex$Contents" 74 (zy mC_hitAll) ∈ lw_tbl := (zt3 (i := 142) rfl)
theorem kC_77 : Cond.methodLink "PrefixCodeIndex$Contents" 77 (zy mC_passDays) ∈ lw_tbl := (zt3 (i := 148) rfl)
theorem kC_80 : Cond.methodLink "PrefixCodeIndex$Contents" 80 (zy mE_begin) ∈ lw_tbl := (zt3 (i := 78) rfl)
theorem kC_84 : Cond.methodLink "PrefixCodeIndex$Contents" 84 (zy mC_find) ∈ lw_tbl := (zt3 (i := 86) rfl)
theorem kC_92 : Cond.methodLink "PrefixCodeIndex$Contents" 92 (zy mE_holds) ∈ lw_tbl := (zt3 (i := 88) rfl)
theorem kC_98 : Cond.methodLink "PrefixCodeIndex$Contents" 98 (zy mE_insert) ∈ lw_tbl := (zt3 (i := 92) rfl)
theorem kC_102 : Cond.methodLink "PrefixCodeIndex$Contents" 102 (zy mE_delete) ∈ lw_tbl := (zt3 (i := 100) rfl)
theorem kC_105 : Cond.methodLink "PrefixCodeIndex$Contents" 105 (zy mC_discard) ∈ lw_tbl := (zt3 (i := 108) rfl)
theorem kC_111 : Cond.methodLink "PrefixCodeIndex$Contents" 111 (zy mE_countShared) ∈ lw_tbl := (zt3 (i := 120) rfl)
theorem kC_115 : Cond.methodLink "PrefixCodeIndex$Contents" 115 (zy mE_absorb) ∈ lw_tbl := (zt3 (i := 125) rfl)
theorem kC_125 : Cond.methodLink "PrefixCodeIndex$Contents" 125 (zy mE_countWith) ∈ lw_tbl := (zt3 (i := 147) rfl)
theorem kC_131 : Cond.methodLink "PrefixCodeIndex$Contents" 131 (zy mC_passDay) ∈ lw_tbl := (zt3 (i := 152) rfl)
theorem kC_134 : Cond.methodLink "PrefixCodeIndex$Contents" 134 (zy mE_hasFaded) ∈ lw_tbl := (zt3 (i := 156) rfl)
theorem kE_3 : Cond.methodLink "PrefixCodeIndex$Entry" 3 ⟨"java/lang/Object", "<init>", "()V"⟩ ∈ lw_tbl := (zt1 (i := 46) rfl)
theorem kE_34 : Cond.methodLink "PrefixCodeIndex$Entry" 34 ⟨"java/lang/System", "arraycopy", "(Ljava/lang/Object;ILjava/lang/Object;II)V"⟩ ∈ lw_tbl := (zt3 (i := 28) rfl)
theorem kE_40 : Cond.methodLink "PrefixCodeIndex$Entry" 40 (zy mE_lifetime) ∈ lw_tbl := (zt3 (i := 16) rfl)
theorem kE_44 : Cond.methodLink "PrefixCodeIndex$Entry" 44 (zy mE_countWith) ∈ lw_tbl := (zt4 (i := 147) rfl)
theorem kE_52 : Cond.methodLink "PrefixCodeIndex$Entry" 52 (zy mE_holds) ∈ lw_tbl := (zt3 (i := 124) rfl)
theorem kE_56 : Cond.methodLink "PrefixCodeIndex$Entry" 56 (zy mE_insert) ∈ lw_tbl := (zt3 (i := 129) rfl)
theorem kE_60 : Cond.methodLink "PrefixCodeIndex$Entry" 60 (zy mN_max) ∈ lw_tbl := (zt3 (i := 130) rfl)
theorem kE_65 : Cond.methodLink "PrefixCodeIndex$Entry" 65 (zy mN_min) ∈ lw_tbl := (zt3 (i := 131) rfl)
theorem kH_3 : Cond.methodLink "PrefixCodeIndex$History" 3 ⟨"java/lang/Object", "<init>", "()V"⟩ ∈ lw_tbl := (zt1 (i := 126) rfl)
theorem kH_24 : Cond.methodLink "PrefixCodeIndex$History" 24 (zy mC_init) ∈ lw_tbl := (zt1 (i := 129) rfl)
theorem kH_25 : Cond.methodLink "PrefixCodeIndex$History" 25 (zy mC_copyFrom) ∈ lw_tbl := (zt3 (i := 69) rfl)
theorem kH_29 : Cond.methodLink "PrefixCodeIndex$History" 29 (zy mN_min) ∈ lw_tbl := (zt3 (i := 197) rfl)
theorem kL_3 : Cond.methodLink "PrefixCodeIndex$Line" 3 ⟨"java/lang/Object", "<init>", "()V"⟩ ∈ lw_tbl := (zt1 (i := 218) rfl)
theorem kL_22 : Cond.methodLink "PrefixCodeIndex$Line" 22 (zy mL_put) ∈ lw_tbl := (zt5 (i := 60) rfl)
theorem kL_26 : Cond.methodLink "PrefixCodeIndex$Line" 26 (zy mL_putNumber) ∈ lw_tbl := (zt5 (i := 64) rfl)
theorem kL_30 : Cond.methodLink "PrefixCodeIndex$Line" 30 (zy mL_digitOf) ∈ lw_tbl := (zt5 (i := 68) rfl)
theorem kL_38 : Cond.methodLink "PrefixCodeIndex$Line" 38 (zy mN_abs) ∈ lw_tbl := (zt5 (i := 71) rfl)
theorem kP_3 : Cond.methodLink "PrefixCodeIndex$Program" 3 ⟨"java/lang/Object", "<init>", "()V"⟩ ∈ lw_tbl := (zt1 (i := 178) rfl)
theorem kP_41 : Cond.methodLink "PrefixCodeIndex$Program" 41 (zy mP_readCommand) ∈ lw_tbl := (zt5 (i := 120) rfl)
theorem kP_45 : Cond.methodLink "PrefixCodeIndex$Program" 45 (zy mP_stands) ∈ lw_tbl := (zt5 (i := 206) rfl)
theorem kP_49 : Cond.methodLink "PrefixCodeIndex$Program" 49 (zy mP_readWord) ∈ lw_tbl := (zt5 (i := 124) rfl)
theorem kP_53 : Cond.methodLink "PrefixCodeIndex$Program" 53 (zy mP_readArguments) ∈ lw_tbl := (zt5 (i := 194) rfl)
theorem kP_57 : Cond.methodLink "PrefixCodeIndex$Program" 57 (zy mP_wordOf) ∈ lw_tbl := (zt5 (i := 128) rfl)
theorem kP_61 : Cond.methodLink "PrefixCodeIndex$Program" 61 (zy mP_matchedLetters) ∈ lw_tbl := (zt5 (i := 141) rfl)
theorem kP_65 : Cond.methodLink "PrefixCodeIndex$Program" 65 ⟨"java/lang/String", "length", "()I"⟩ ∈ lw_tbl := (zt5 (i := 145) rfl)
theorem kP_69 : Cond.methodLink "PrefixCodeIndex$Program" 69 (zy mN_max) ∈ lw_tbl := (zt5 (i := 193) rfl)
theorem kP_75 : Cond.methodLink "PrefixCodeIndex$Program" 75 ⟨"java/lang/String", "charAt", "(I)C"⟩ ∈ lw_tbl := (zt5 (i := 155) rfl)
theorem kP_99 : Cond.methodLink "PrefixCodeIndex$Program" 99 (zy mP_readFirst) ∈ lw_tbl := (zt5 (i := 198) rfl)
theorem kP_102 : Cond.methodLink "PrefixCodeIndex$Program" 102 (zy mP_readSecond) ∈ lw_tbl := (zt5 (i := 214) rfl)
theorem kP_105 : Cond.methodLink "PrefixCodeIndex$Program" 105 (zy mP_readPrefix) ∈ lw_tbl := (zt5 (i := 218) rfl)
theorem kP_108 : Cond.methodLink "PrefixCodeIndex$Program" 108 (zy mP_readNumber) ∈ lw_tbl := (zt5 (i := 202) rfl)
theorem kP_111 : Cond.methodLink "PrefixCodeIndex$Program" 111 (zy mP_digitStands) ∈ lw_tbl := (zt5 (i := 210) rfl)
theorem kR_3 : Cond.methodLink "PrefixCodeIndex$Ranking" 3 ⟨"java/lang/Object", "<init>", "()V"⟩ ∈ lw_tbl := (zt1 (i := 159) rfl)
theorem kR_31 : Cond.methodLink "PrefixCodeIndex$Ranking" 31 (zy mE_countWith) ∈ lw_tbl := (zt4 (i := 142) rfl)
theorem kR_40 : Cond.methodLink "PrefixCodeIndex$Ranking" 40 (zy mE_score) ∈ lw_tbl := (zt4 (i := 143) rfl)
theorem kR_43 : Cond.methodLink "PrefixCodeIndex$Ranking" 43 (zy mR_place) ∈ lw_tbl := (zt4 (i := 148) rfl)
theorem kT_5 : Cond.methodLink "PrefixCodeIndex$Trie" 5 ⟨"java/lang/Object", "<init>", "()V"⟩ ∈ lw_tbl := (zt1 (i := 146) rfl)
theorem kT_18 : Cond.methodLink "PrefixCodeIndex$Trie" 18 (zy mT_digitAt) ∈ lw_tbl := (zt2 (i := 168) rfl)
theorem kT_22 : Cond.methodLink "PrefixCodeIndex$Trie" 22 (zy mT_child) ∈ lw_tbl := (zt2 (i := 171) rfl)
theorem kT_25 : Cond.methodLink "PrefixCodeIndex$Trie" 25 (zy mT_codesAt) ∈ lw_tbl := (zt2 (i := 208) rfl)
theorem kT_29 : Cond.methodLink "PrefixCodeIndex$Trie" 29 (zy mA_fill) ∈ lw_tbl := (zt2 (i := 154) rfl)
theorem kT_56 : Cond.methodLink "PrefixCodeIndex$Trie" 56 (zy mT_countCode) ∈ lw_tbl := (zt2 (i := 160) rfl)
theorem kT_60 : Cond.methodLink "PrefixCodeIndex$Trie" 60 (zy mT_entriesAt) ∈ lw_tbl := (zt2 (i := 164) rfl)
theorem kW_7 : Cond.methodLink "PrefixCodeIndexLaw" 7 (zy mX_addEntry) ∈ lw_tbl := (zt3 (i := 57) rfl)
theorem kW_17 : Cond.methodLink "PrefixCodeIndexLaw" 17 (zy mX_addCode) ∈ lw_tbl := (zt3 (i := 202) rfl)
theorem kW_23 : Cond.methodLink "PrefixCodeIndexLaw" 23 (zy mX_removeCode) ∈ lw_tbl := (zt3 (i := 209) rfl)
theorem kW_26 : Cond.methodLink "PrefixCodeIndexLaw" 26 (zy mX_removeEntry) ∈ lw_tbl := (zt3 (i := 216) rfl)
theorem kW_29 : Cond.methodLink "PrefixCodeIndexLaw" 29 (zy mX_touch) ∈ lw_tbl := (zt3 (i := 223) rfl)
theorem kW_32 : Cond.methodLink "PrefixCodeIndexLaw" 32 (zy mX_merge) ∈ lw_tbl := (zt3 (i := 230) rfl)
theorem kW_35 : Cond.methodLink "PrefixCodeIndexLaw" 35 (zy mX_startSegment) ∈ lw_tbl := (zt3 (i := 237) rfl)
theorem kW_39 : Cond.methodLink "PrefixCodeIndexLaw" 39 (zy mX_joinSegments) ∈ lw_tbl := (zt4 (i := 25) rfl)
theorem kW_44 : Cond.methodLink "PrefixCodeIndexLaw" 44 (zy mX_search) ∈ lw_tbl := (zt4 (i := 32) rfl)
theorem kW_47 : Cond.methodLink "PrefixCodeIndexLaw" 47 (zy mX_pass) ∈ lw_tbl := (zt4 (i := 39) rfl)
theorem kW_50 : Cond.methodLink "PrefixCodeIndexLaw" 50 (zy mX_idAt) ∈ lw_tbl := (zt4 (i := 46) rfl)
theorem kW_53 : Cond.methodLink "PrefixCodeIndexLaw" 53 (zy mX_weightOf) ∈ lw_tbl := (zt4 (i := 54) rfl)
theorem kW_56 : Cond.methodLink "PrefixCodeIndexLaw" 56 (zy mX_ageOf) ∈ lw_tbl := (zt4 (i := 61) rfl)
theorem kW_59 : Cond.methodLink "PrefixCodeIndexLaw" 59 (zy mX_hitsOf) ∈ lw_tbl := (zt4 (i := 68) rfl)
theorem kW_62 : Cond.methodLink "PrefixCodeIndexLaw" 62 (zy mX_lifetimeOf) ∈ lw_tbl := (zt4 (i := 75) rfl)
theorem kW_65 : Cond.methodLink "PrefixCodeIndexLaw" 65 (zy mX_segmentOf) ∈ lw_tbl := (zt4 (i := 83) rfl)
theorem kW_68 : Cond.methodLink "PrefixCodeIndexLaw" 68 (zy mX_codeCount) ∈ lw_tbl := (zt4 (i := 90) rfl)
theorem kW_71 : Cond.methodLink "PrefixCodeIndexLaw" 71 (zy mX_codeAt) ∈ lw_tbl := (zt4 (i := 97) rfl)
theorem kW_74 : Cond.methodLink "PrefixCodeIndexLaw" 74 (zy mX_hasCode) ∈ lw_tbl := (zt4 (i := 104) rfl)
theorem kW_78 : Cond.methodLink "PrefixCodeIndexLaw" 78 (zy mX_matches) ∈ lw_tbl := (zt4 (i := 112) rfl)
theorem kW_82 : Cond.methodLink "PrefixCodeIndexLaw" 82 (zy mX_entriesIn) ∈ lw_tbl := (zt4 (i := 119) rfl)
theorem kW_85 : Cond.methodLink "PrefixCodeIndexLaw" 85 (zy mX_resultCount) ∈ lw_tbl := (zt4 (i := 126) rfl)
theorem kW_88 : Cond.methodLink "PrefixCodeIndexLaw" 88 (zy mX_resultCountByScan) ∈ lw_tbl := (zt4 (i := 130) rfl)
theorem kW_91 : Cond.methodLink "PrefixCodeIndexLaw" 91 (zy mX_resultAt) ∈ lw_tbl := (zt4 (i := 134) rfl)
theorem kW_95 : Cond.methodLink "PrefixCodeIndexLaw" 95 (zy mX_scoreOf) ∈ lw_tbl := (zt4 (i := 156) rfl)
theorem kW_98 : Cond.methodLink "PrefixCodeIndexLaw" 98 (zy mX_codesWith) ∈ lw_tbl := (zt4 (i := 164) rfl)
theorem kW_101 : Cond.methodLink "PrefixCodeIndexLaw" 101 (zy mX_nextDigits) ∈ lw_tbl := (zt4 (i := 172) rfl)
theorem kW_104 : Cond.methodLink "PrefixCodeIndexLaw" 104 (zy mX_sharedDigits) ∈ lw_tbl := (zt4 (i := 184) rfl)
theorem kW_107 : Cond.methodLink "PrefixCodeIndexLaw" 107 (zy mX_sharedDigitsByScan) ∈ lw_tbl := (zt4 (i := 188) rfl)
theorem kW_110 : Cond.methodLink "PrefixCodeIndexLaw" 110 (zy mX_entriesWith) ∈ lw_tbl := (zt4 (i := 192) rfl)
theorem kW_113 : Cond.methodLink "PrefixCodeIndexLaw" 113 (zy mX_codeAfter) ∈ lw_tbl := (zt4 (i := 199) rfl)
theorem kW_116 : Cond.methodLink "PrefixCodeIndexLaw" 116 (zy mX_commonestCode) ∈ lw_tbl := (zt4 (i := 212) rfl)
theorem kW_119 : Cond.methodLink "PrefixCodeIndexLaw" 119 (zy mX_sharedCodes) ∈ lw_tbl := (zt4 (i := 224) rfl)
theorem kW_122 : Cond.methodLink "PrefixCodeIndexLaw" 122 (zy mX_mostSimilar) ∈ lw_tbl := (zt4 (i := 232) rfl)
theorem kW_125 : Cond.methodLink "PrefixCodeIndexLaw" 125 (zy mX_daysUntilFaded) ∈ lw_tbl := (zt5 (i := 0) rfl)
theorem kW_128 : Cond.methodLink "PrefixCodeIndexLaw" 128 (zy mX_daysUntilFadedByDays) ∈ lw_tbl := (zt5 (i := 4) rfl)
theorem kW_131 : Cond.methodLink "PrefixCodeIndexLaw" 131 (zy mX_fadingWithin) ∈ lw_tbl := (zt5 (i := 8) rfl)
theorem kW_134 : Cond.methodLink "PrefixCodeIndexLaw" 134 (zy mX_meanCodes) ∈ lw_tbl := (zt5 (i := 30) rfl)
theorem kW_140 : Cond.methodLink "PrefixCodeIndexLaw" 140 (zy mX_fadedShare) ∈ lw_tbl := (zt5 (i := 40) rfl)
theorem kW_144 : Cond.methodLink "PrefixCodeIndexLaw" 144 (zy mX_formatEntry) ∈ lw_tbl := (zt5 (i := 48) rfl)
theorem kW_147 : Cond.methodLink "PrefixCodeIndexLaw" 147 (zy mX_formatResults) ∈ lw_tbl := (zt5 (i := 83) rfl)
theorem kW_150 : Cond.methodLink "PrefixCodeIndexLaw" 150 (zy mX_lineChar) ∈ lw_tbl := (zt5 (i := 91) rfl)
theorem kW_154 : Cond.methodLink "PrefixCodeIndexLaw" 154 (zy mX_append) ∈ lw_tbl := (zt5 (i := 99) rfl)
theorem kW_158 : Cond.methodLink "PrefixCodeIndexLaw" 158 (zy mX_run) ∈ lw_tbl := (zt5 (i := 112) rfl)
theorem kW_161 : Cond.methodLink "PrefixCodeIndexLaw" 161 (zy mX_errorPosition) ∈ lw_tbl := (zt5 (i := 239) rfl)
theorem kW_164 : Cond.methodLink "PrefixCodeIndexLaw" 164 (zy mX_failedCommand) ∈ lw_tbl := (zt6 (i := 7) rfl)
theorem kW_167 : Cond.methodLink "PrefixCodeIndexLaw" 167 (zy mX_undo) ∈ lw_tbl := (zt6 (i := 15) rfl)
theorem kW_170 : Cond.methodLink "PrefixCodeIndexLaw" 170 (zy mX_restore) ∈ lw_tbl := (zt6 (i := 27) rfl)
theorem kW_173 : Cond.methodLink "PrefixCodeIndexLaw" 173 (zy mX_init) ∈ lw_tbl := (zt1 (i := 28) rfl)
theorem kW_176 : Cond.methodLink "PrefixCodeIndexLaw" 176 (zy mM_init) ∈ lw_tbl := (zt6 (i := 38) rfl)
theorem kW_177 : Cond.methodLink "PrefixCodeIndexLaw" 177 (zy mW_addEntry) ∈ lw_tbl := (zt3 (i := 52) rfl)
theorem kW_182 : Cond.methodLink "PrefixCodeIndexLaw" 182 (zy mM_addEntry) ∈ lw_tbl := (zt6 (i := 110) rfl)
theorem kW_183 : Cond.methodLink "PrefixCodeIndexLaw" 183 (zy mM_thrown) ∈ lw_tbl := (zt6 (i := 106) rfl)
theorem kW_186 : Cond.methodLink "PrefixCodeIndexLaw" 186 (zy mW_addCode) ∈ lw_tbl := (zt3 (i := 198) rfl)
theorem kW_189 : Cond.methodLink "PrefixCodeIndexLaw" 189 (zy mM_addCode) ∈ lw_tbl := (zt6 (i := 137) rfl)
theorem kW_190 : Cond.methodLink "PrefixCodeIndexLaw" 190 (zy mW_removeCode) ∈ lw_tbl := (zt3 (i := 206) rfl)
theorem kW_192 : Cond.methodLink "PrefixCodeIndexLaw" 192 (zy mM_removeCode) ∈ lw_tbl := (zt6 (i := 168) rfl)
theorem kW_193 : Cond.methodLink "PrefixCodeIndexLaw" 193 (zy mW_removeEntry) ∈ lw_tbl := (zt3 (i := 213) rfl)
theorem kW_195 : Cond.methodLink "PrefixCodeIndexLaw" 195 (zy mM_removeEntry) ∈ lw_tbl := (zt6 (i := 176) rfl)
theorem kW_196 : Cond.methodLink "PrefixCodeIndexLaw" 196 (zy mW_touch) ∈ lw_tbl := (zt3 (i := 220) rfl)
theorem kW_198 : Cond.methodLink "PrefixCodeIndexLaw" 198 (zy mM_touch) ∈ lw_tbl := (zt6 (i := 188) rfl)
theorem kW_199 : Cond.methodLink "PrefixCodeIndexLaw" 199 (zy mW_merge) ∈ lw_tbl := (zt3 (i := 227) rfl)
theorem kW_201 : Cond.methodLink "PrefixCodeIndexLaw" 201 (zy mM_merge) ∈ lw_tbl := (zt6 (i := 196) rfl)
theorem kW_202 : Cond.methodLink "PrefixCodeIndexLaw" 202 (zy mW_startSegment) ∈ lw_tbl := (zt3 (i := 234) rfl)
theorem kW_205 : Cond.methodLink "PrefixCodeIndexLaw" 205 (zy mM_startSegment) ∈ lw_tbl := (zt6 (i := 210) rfl)
theorem kW_206 : Cond.methodLink "PrefixCodeIndexLaw" 206 (zy mW_joinSegments) ∈ lw_tbl := (zt4 (i := 1) rfl)
theorem kW_208 : Cond.methodLink "PrefixCodeIndexLaw" 208 (zy mM_joinSegments) ∈ lw_tbl := (zt6 (i := 218) rfl)
theorem kW_209 : Cond.methodLink "PrefixCodeIndexLaw" 209 (zy mW_search) ∈ lw_tbl := (zt4 (i := 29) rfl)
theorem kW_211 : Cond.methodLink "PrefixCodeIndexLaw" 211 (zy mM_search) ∈ lw_tbl := (zt6 (i := 226) rfl)
theorem kW_212 : Cond.methodLink "PrefixCodeIndexLaw" 212 (zy mW_pass) ∈ lw_tbl := (zt4 (i := 36) rfl)
theorem kW_214 : Cond.methodLink "PrefixCodeIndexLaw" 214 (zy mM_pass) ∈ lw_tbl := (zt6 (i := 237) rfl)
theorem kW_215 : Cond.methodLink "PrefixCodeIndexLaw" 215 (zy mX_entryCount) ∈ lw_tbl := (zt2 (i := 30) rfl)
theorem kW_218 : Cond.methodLink "PrefixCodeIndexLaw" 218 (zy mM_entryCount) ∈ lw_tbl := (zt7 (i := 10) rfl)
theorem kW_219 : Cond.methodLink "PrefixCodeIndexLaw" 219 (zy mW_idAt) ∈ lw_tbl := (zt4 (i := 43) rfl)
theorem kW_221 : Cond.methodLink "PrefixCodeIndexLaw" 221 (zy mM_idAt) ∈ lw_tbl := (zt7 (i := 18) rfl)
theorem kW_222 : Cond.methodLink "PrefixCodeIndexLaw" 222 (zy mW_weightOf) ∈ lw_tbl := (zt4 (i := 51) rfl)
theorem kW_224 : Cond.methodLink "PrefixCodeIndexLaw" 224 (zy mM_weightOf) ∈ lw_tbl := (zt7 (i := 22) rfl)
theorem kW_225 : Cond.methodLink "PrefixCodeIndexLaw" 225 (zy mW_ageOf) ∈ lw_tbl := (zt4 (i := 58) rfl)
theorem kW_227 : Cond.methodLink "PrefixCodeIndexLaw" 227 (zy mM_ageOf) ∈ lw_tbl := (zt7 (i := 30) rfl)
theorem kW_228 : Cond.methodLink "PrefixCodeIndexLaw" 228 (zy mW_hitsOf) ∈ lw_tbl := (zt4 (i := 65) rfl)
theorem kW_230 : Cond.methodLink "PrefixCodeIndexLaw" 230 (zy mM_hitsOf) ∈ lw_tbl := (zt7 (i := 34) rfl)
theorem kW_231 : Cond.methodLink "PrefixCodeIndexLaw" 231 (zy mW_lifetimeOf) ∈ lw_tbl := (zt4 (i := 72) rfl)
theorem kW_233 : Cond.methodLink "PrefixCodeIndexLaw" 233 (zy mM_lifetimeOf) ∈ lw_tbl := (zt7 (i := 38) rfl)
theorem kW_234 : Cond.methodLink "PrefixCodeIndexLaw" 234 (zy mW_segmentOf) ∈ lw_tbl := (zt4 (i := 80) rfl)
theorem kW_236 : Cond.methodLink "PrefixCodeIndexLaw" 236 (zy mM_segmentOf) ∈ lw_tbl := (zt7 (i := 42) rfl)
theorem kW_237 : Cond.methodLink "PrefixCodeIndexLaw" 237 (zy mW_codeCount) ∈ lw_tbl := (zt4 (i := 87) rfl)
theorem kW_239 : Cond.methodLink "PrefixCodeIndexLaw" 239 (zy mM_codeCount) ∈ lw_tbl := (zt7 (i := 46) rfl)
theorem kW_240 : Cond.methodLink "PrefixCodeIndexLaw" 240 (zy mW_codeAt) ∈ lw_tbl := (zt4 (i := 94) rfl)
theorem kW_242 : Cond.methodLink "PrefixCodeIndexLaw" 242 (zy mM_codeAt) ∈ lw_tbl := (zt7 (i := 50) rfl)
theorem kW_243 : Cond.methodLink "PrefixCodeIndexLaw" 243 (zy mW_hasCode) ∈ lw_tbl := (zt4 (i := 101) rfl)
theorem kW_245 : Cond.methodLink "PrefixCodeIndexLaw" 245 (zy mM_hasCode) ∈ lw_tbl := (zt7 (i := 54) rfl)
theorem kW_246 : Cond.methodLink "PrefixCodeIndexLaw" 246 (zy mW_matches) ∈ lw_tbl := (zt4 (i := 109) rfl)
theorem kW_249 : Cond.methodLink "PrefixCodeIndexLaw" 249 (zy mM_matches) ∈ lw_tbl := (zt7 (i := 58) rfl)
theorem kW_250 : Cond.methodLink "PrefixCodeIndexLaw" 250 (zy mX_segmentCount) ∈ lw_tbl := (zt2 (i := 34) rfl)
theorem kW_253 : Cond.methodLink "PrefixCodeIndexLaw" 253 (zy mM_segmentCount) ∈ lw_tbl := (zt7 (i := 62) rfl)
theorem kW_254 : Cond.methodLink "PrefixCodeIndexLaw" 254 (zy mW_entriesIn) ∈ lw_tbl := (zt4 (i := 116) rfl)
theorem kW_256 : Cond.methodLink "PrefixCodeIndexLaw" 256 (zy mM_entriesIn) ∈ lw_tbl := (zt7 (i := 66) rfl)
theorem kW_257 : Cond.methodLink "PrefixCodeIndexLaw" 257 (zy mW_resultCount) ∈ lw_tbl := (zt4 (i := 123) rfl)
theorem kW_259 : Cond.methodLink "PrefixCodeIndexLaw" 259 (zy mM_resultCount) ∈ lw_tbl := (zt7 (i := 70) rfl)
theorem kW_260 : Cond.methodLink "PrefixCodeIndexLaw" 260 (zy mW_resultCountByScan) ∈ lw_tbl := (zt4 (i := 127) rfl)
theorem kW_262 : Cond.methodLink "PrefixCodeIndexLaw" 262 (zy mM_resultCountByScan) ∈ lw_tbl := (zt7 (i := 78) rfl)
theorem kW_263 : Cond.methodLink "PrefixCodeIndexLaw" 263 (zy mW_resultAt) ∈ lw_tbl := (zt4 (i := 131) rfl)
theorem kW_265 : Cond.methodLink "PrefixCodeIndexLaw" 265 (zy mM_resultAt) ∈ lw_tbl := (zt7 (i := 83) rfl)
theorem kW_266 : Cond.methodLink "PrefixCodeIndexLaw" 266 (zy mW_scoreOf) ∈ lw_tbl := (zt4 (i := 153) rfl)
theorem kW_268 : Cond.methodLink "PrefixCodeIndexLaw" 268 (zy mM_scoreOf) ∈ lw_tbl := (zt7 (i := 95) rfl)
theorem kW_269 : Cond.methodLink "PrefixCodeIndexLaw" 269 (zy mW_codesWith) ∈ lw_tbl := (zt4 (i := 161) rfl)
theorem kW_271 : Cond.methodLink "PrefixCodeIndexLaw" 271 (zy mM_codesWith) ∈ lw_tbl := (zt7 (i := 99) rfl)
theorem kW_272 : Cond.methodLink "PrefixCodeIndexLaw" 272 (zy mW_nextDigits) ∈ lw_tbl := (zt4 (i := 169) rfl)
theorem kW_274 : Cond.methodLink "PrefixCodeIndexLaw" 274 (zy mM_nextDigits) ∈ lw_tbl := (zt7 (i := 107) rfl)
theorem kW_275 : Cond.methodLink "PrefixCodeIndexLaw" 275 (zy mW_sharedDigits) ∈ lw_tbl := (zt4 (i := 181) rfl)
theorem kW_277 : Cond.methodLink "PrefixCodeIndexLaw" 277 (zy mM_sharedDigits) ∈ lw_tbl := (zt7 (i := 111) rfl)
theorem kW_278 : Cond.methodLink "PrefixCodeIndexLaw" 278 (zy mW_sharedDigitsByScan) ∈ lw_tbl := (zt4 (i := 185) rfl)
theorem kW_280 : Cond.methodLink "PrefixCodeIndexLaw" 280 (zy mM_sharedDigitsByScan) ∈ lw_tbl := (zt7 (i := 115) rfl)
theorem kW_281 : Cond.methodLink "PrefixCodeIndexLaw" 281 (zy mW_entriesWith) ∈ lw_tbl := (zt4 (i := 189) rfl)
theorem kW_283 : Cond.methodLink "PrefixCodeIndexLaw" 283 (zy mM_entriesWith) ∈ lw_tbl := (zt7 (i := 120) rfl)
theorem kW_284 : Cond.methodLink "PrefixCodeIndexLaw" 284 (zy mW_codeAfter) ∈ lw_tbl := (zt4 (i := 196) rfl)
theorem kW_286 : Cond.methodLink "PrefixCodeIndexLaw" 286 (zy mM_codeAfter) ∈ lw_tbl := (zt7 (i := 124) rfl)
theorem kW_287 : Cond.methodLink "PrefixCodeIndexLaw" 287 (zy mW_commonestCode) ∈ lw_tbl := (zt4 (i := 209) rfl)
theorem kW_289 : Cond.methodLink "PrefixCodeIndexLaw" 289 (zy mM_commonestCode) ∈ lw_tbl := (zt7 (i := 129) rfl)
theorem kW_290 : Cond.methodLink "PrefixCodeIndexLaw" 290 (zy mW_sharedCodes) ∈ lw_tbl := (zt4 (i := 221) rfl)
theorem kW_292 : Cond.methodLink "PrefixCodeIndexLaw" 292 (zy mM_sharedCodes) ∈ lw_tbl := (zt7 (i := 133) rfl)
theorem kW_293 : Cond.methodLink "PrefixCodeIndexLaw" 293 (zy mW_mostSimilar) ∈ lw_tbl := (zt4 (i := 229) rfl)
theorem kW_295 : Cond.methodLink "PrefixCodeIndexLaw" 295 (zy mM_mostSimilar) ∈ lw_tbl := (zt7 (i := 137) rfl)
theorem kW_296 : Cond.methodLink "PrefixCodeIndexLaw" 296 (zy mW_daysUntilFaded) ∈ lw_tbl := (zt4 (i := 237) rfl)
theorem kW_298 : Cond.methodLink "PrefixCodeIndexLaw" 298 (zy mM_daysUntilFaded) ∈ lw_tbl := (zt7 (i := 141) rfl)
theorem kW_299 : Cond.methodLink "PrefixCodeIndexLaw" 299 (zy mW_daysUntilFadedByDays) ∈ lw_tbl := (zt5 (i := 1) rfl)
theorem kW_301 : Cond.methodLink "PrefixCodeIndexLaw" 301 (zy mM_daysUntilFadedByDays) ∈ lw_tbl := (zt7 (i := 149) rfl)
theorem kW_302 : Cond.methodLink "PrefixCodeIndexLaw" 302 (zy mW_fadingWithin) ∈ lw_tbl := (zt5 (i := 5) rfl)
theorem kW_304 : Cond.methodLink "PrefixCodeIndexLaw" 304 (zy mM_fadingWithin) ∈ lw_tbl := (zt7 (i := 154) rfl)
theorem kW_305 : Cond.methodLink "PrefixCodeIndexLaw" 305 (zy mX_addedTotal) ∈ lw_tbl := (zt2 (i := 38) rfl)
theorem kW_308 : Cond.methodLink "PrefixCodeIndexLaw" 308 (zy mM_addedTotal) ∈ lw_tbl := (zt7 (i := 158) rfl)
theorem kW_309 : Cond.methodLink "PrefixCodeIndexLaw" 309 (zy mX_removedTotal) ∈ lw_tbl := (zt2 (i := 42) rfl)
theorem kW_312 : Cond.methodLink "PrefixCodeIndexLaw" 312 (zy mM_removedTotal) ∈ lw_tbl := (zt7 (i := 162) rfl)
theorem kW_313 : Cond.methodLink "PrefixCodeIndexLaw" 313 (zy mX_mergedTotal) ∈ lw_tbl := (zt2 (i := 46) rfl)
theorem kW_316 : Cond.methodLink "PrefixCodeIndexLaw" 316 (zy mM_mergedTotal) ∈ lw_tbl := (zt7 (i := 166) rfl)
theorem kW_317 : Cond.methodLink "PrefixCodeIndexLaw" 317 (zy mX_fadedTotal) ∈ lw_tbl := (zt2 (i := 50) rfl)
theorem kW_320 : Cond.methodLink "PrefixCodeIndexLaw" 320 (zy mM_fadedTotal) ∈ lw_tbl := (zt7 (i := 170) rfl)
theorem kW_321 : Cond.methodLink "PrefixCodeIndexLaw" 321 (zy mW_meanCodes) ∈ lw_tbl := (zt5 (i := 13) rfl)
theorem kW_324 : Cond.methodLink "PrefixCodeIndexLaw" 324 (zy mM_meanCodes) ∈ lw_tbl := (zt7 (i := 174) rfl)
theorem kW_325 : Cond.methodLink "PrefixCodeIndexLaw" 325 (zy mW_fadedShare) ∈ lw_tbl := (zt5 (i := 37) rfl)
theorem kW_327 : Cond.methodLink "PrefixCodeIndexLaw" 327 (zy mM_fadedShare) ∈ lw_tbl := (zt7 (i := 178) rfl)
theorem kW_328 : Cond.methodLink "PrefixCodeIndexLaw" 328 (zy mX_isConsistent) ∈ lw_tbl := (zt2 (i := 54) rfl)
theorem kW_332 : Cond.methodLink "PrefixCodeIndexLaw" 332 (zy mM_isConsistent) ∈ lw_tbl := (zt7 (i := 182) rfl)
theorem kW_333 : Cond.methodLink "PrefixCodeIndexLaw" 333 (zy mW_formatEntry) ∈ lw_tbl := (zt5 (i := 45) rfl)
theorem kW_335 : Cond.methodLink "PrefixCodeIndexLaw" 335 (zy mM_formatEntry) ∈ lw_tbl := (zt7 (i := 186) rfl)
theorem kW_336 : Cond.methodLink "PrefixCodeIndexLaw" 336 (zy mW_formatResults) ∈ lw_tbl := (zt5 (i := 80) rfl)
theorem kW_338 : Cond.methodLink "PrefixCodeIndexLaw" 338 (zy mM_formatResults) ∈ lw_tbl := (zt7 (i := 203) rfl)
theorem kW_339 : Cond.methodLink "PrefixCodeIndexLaw" 339 (zy mW_lineChar) ∈ lw_tbl := (zt5 (i := 88) rfl)
theorem kW_341 : Cond.methodLink "PrefixCodeIndexLaw" 341 (zy mM_lineChar) ∈ lw_tbl := (zt7 (i := 207) rfl)
theorem kW_342 : Cond.methodLink "PrefixCodeIndexLaw" 342 (zy mW_append) ∈ lw_tbl := (zt5 (i := 96) rfl)
theorem kW_345 : Cond.methodLink "PrefixCodeIndexLaw" 345 (zy mM_append) ∈ lw_tbl := (zt7 (i := 211) rfl)
theorem kW_346 : Cond.methodLink "PrefixCodeIndexLaw" 346 (zy mW_run) ∈ lw_tbl := (zt5 (i := 109) rfl)
theorem kW_348 : Cond.methodLink "PrefixCodeIndexLaw" 348 (zy mM_run) ∈ lw_tbl := (zt7 (i := 217) rfl)
theorem kW_349 : Cond.methodLink "PrefixCodeIndexLaw" 349 (zy mW_errorPosition) ∈ lw_tbl := (zt5 (i := 236) rfl)
theorem kW_351 : Cond.methodLink "PrefixCodeIndexLaw" 351 (zy mM_errorPosition) ∈ lw_tbl := (zt8 (i := 19) rfl)
theorem kW_352 : Cond.methodLink "PrefixCodeIndexLaw" 352 (zy mW_failedCommand) ∈ lw_tbl := (zt6 (i := 4) rfl)
theorem kW_354 : Cond.methodLink "PrefixCodeIndexLaw" 354 (zy mM_failedCommand) ∈ lw_tbl := (zt8 (i := 23) rfl)
theorem kW_355 : Cond.methodLink "PrefixCodeIndexLaw" 355 (zy mX_undoableCount) ∈ lw_tbl := (zt3 (i := 39) rfl)
theorem kW_358 : Cond.methodLink "PrefixCodeIndexLaw" 358 (zy mM_undoableCount) ∈ lw_tbl := (zt8 (i := 27) rfl)
theorem kW_359 : Cond.methodLink "PrefixCodeIndexLaw" 359 (zy mW_undo) ∈ lw_tbl := (zt6 (i := 12) rfl)
theorem kW_361 : Cond.methodLink "PrefixCodeIndexLaw" 361 (zy mM_undo) ∈ lw_tbl := (zt8 (i := 31) rfl)
theorem kW_362 : Cond.methodLink "PrefixCodeIndexLaw" 362 (zy mX_save) ∈ lw_tbl := (zt3 (i := 43) rfl)
theorem kW_365 : Cond.methodLink "PrefixCodeIndexLaw" 365 (zy mM_save) ∈ lw_tbl := (zt8 (i := 35) rfl)
theorem kW_366 : Cond.methodLink "PrefixCodeIndexLaw" 366 (zy mW_restore) ∈ lw_tbl := (zt6 (i := 24) rfl)
theorem kW_368 : Cond.methodLink "PrefixCodeIndexLaw" 368 (zy mM_restore) ∈ lw_tbl := (zt8 (i := 39) rfl)
theorem kM_1 : Cond.methodLink "PrefixCodeIndexModel" 1 ⟨"java/lang/Object", "<init>", "()V"⟩ ∈ lw_tbl := (zt6 (i := 41) rfl)
theorem kM_51 : Cond.methodLink "PrefixCodeIndexModel" 51 (zy mM_entryAt) ∈ lw_tbl := (zt6 (i := 130) rfl)
theorem kM_55 : Cond.methodLink "PrefixCodeIndexModel" 55 (zy mM_in) ∈ lw_tbl := (zt6 (i := 123) rfl)
theorem kM_59 : Cond.methodLink "PrefixCodeIndexModel" 59 (zy mM_power) ∈ lw_tbl := (zt6 (i := 161) rfl)
theorem kM_62 : Cond.methodLink "PrefixCodeIndexModel" 62 (zy mM_codeOf) ∈ lw_tbl := (zt6 (i := 154) rfl)
theorem kM_66 : Cond.methodLink "PrefixCodeIndexModel" 66 (zy mM_has) ∈ lw_tbl := (zt6 (i := 158) rfl)
theorem kM_70 : Cond.methodLink "PrefixCodeIndexModel" 70 (zy mM_many) ∈ lw_tbl := (zt6 (i := 150) rfl)
theorem kM_74 : Cond.methodLink "PrefixCodeIndexModel" 74 (zy mM_score) ∈ lw_tbl := (zt7 (i := 91) rfl)
theorem kM_77 : Cond.methodLink "PrefixCodeIndexModel" 77 (zy mM_results) ∈ lw_tbl := (zt7 (i := 74) rfl)
theorem kM_80 : Cond.methodLink "PrefixCodeIndexModel" 80 (zy mN_min) ∈ lw_tbl := (zt6 (i := 209) rfl)
theorem kM_85 : Cond.methodLink "PrefixCodeIndexModel" 85 (zy mM_lifetime) ∈ lw_tbl := (zt7 (i := 6) rfl)
theorem kM_90 : Cond.methodLink "PrefixCodeIndexModel" 90 (zy mM_throwing) ∈ lw_tbl := (zt6 (i := 126) rfl)
theorem kM_93 : Cond.methodLink "PrefixCodeIndexModel" 93 (zy mM_starts) ∈ lw_tbl := (zt6 (i := 114) rfl)
theorem kM_96 : Cond.methodLink "PrefixCodeIndexModel" 96 (zy mM_entryIt) ∈ lw_tbl := (zt6 (i := 118) rfl)
theorem kM_99 : Cond.methodLink "PrefixCodeIndexModel" 99 (zy mM_changed) ∈ lw_tbl := (zt6 (i := 133) rfl)
theorem kM_102 : Cond.methodLink "PrefixCodeIndexModel" 102 (zy mM_find) ∈ lw_tbl := (zt6 (i := 145) rfl)
theorem kM_107 : Cond.methodLink "PrefixCodeIndexModel" 107 (zy mM_puts) ∈ lw_tbl := (zt6 (i := 164) rfl)
theorem kM_111 : Cond.methodLink "PrefixCodeIndexModel" 111 (zy mM_codeIt) ∈ lw_tbl := (zt6 (i := 141) rfl)
theorem kM_114 : Cond.methodLink "PrefixCodeIndexModel" 114 (zy mM_uncodeIt) ∈ lw_tbl := (zt6 (i := 172) rfl)
theorem kM_117 : Cond.methodLink "PrefixCodeIndexModel" 117 (zy mM_leaves) ∈ lw_tbl := (zt6 (i := 184) rfl)
theorem kM_121 : Cond.methodLink "PrefixCodeIndexModel" 121 (zy mM_dropIt) ∈ lw_tbl := (zt6 (i := 180) rfl)
theorem kM_124 : Cond.methodLink "PrefixCodeIndexModel" 124 (zy mM_touchIt) ∈ lw_tbl := (zt6 (i := 192) rfl)
theorem kM_127 : Cond.methodLink "PrefixCodeIndexModel" 127 (zy mM_common) ∈ lw_tbl := (zt6 (i := 204) rfl)
theorem kM_130 : Cond.methodLink "PrefixCodeIndexModel" 130 (zy mN_max) ∈ lw_tbl := (zt6 (i := 208) rfl)
theorem kM_133 : Cond.methodLink "PrefixCodeIndexModel" 133 (zy mM_mergeIt) ∈ lw_tbl := (zt6 (i := 200) rfl)
theorem kM_136 : Cond.methodLink "PrefixCodeIndexModel" 136 (zy mM_segmentIt) ∈ lw_tbl := (zt6 (i := 214) rfl)
theorem kM_140 : Cond.methodLink "PrefixCodeIndexModel" 140 (zy mM_joinIt) ∈ lw_tbl := (zt6 (i := 222) rfl)
theorem kM_143 : Cond.methodLink "PrefixCodeIndexModel" 143 (zy mM_isPrefix) ∈ lw_tbl := (zt6 (i := 234) rfl)
theorem kM_146 : Cond.methodLink "PrefixCodeIndexModel" 146 (zy mM_searchIt) ∈ lw_tbl := (zt6 (i := 230) rfl)
theorem kM_151 : Cond.methodLink "PrefixCodeIndexModel" 151 (zy mM_passIt) ∈ lw_tbl := (zt7 (i := 1) rfl)
theorem kM_154 : Cond.methodLink "PrefixCodeIndexModel" 154 (zy mM_total) ∈ lw_tbl := (zt7 (i := 14) rfl)
theorem kM_157 : Cond.methodLink "PrefixCodeIndexModel" 157 (zy mM_ofEntry) ∈ lw_tbl := (zt7 (i := 26) rfl)
theorem kM_160 : Cond.methodLink "PrefixCodeIndexModel" 160 (zy mM_resultCount) ∈ lw_tbl := (zt7 (i := 82) rfl)
theorem kM_163 : Cond.methodLink "PrefixCodeIndexModel" 163 (zy mM_result) ∈ lw_tbl := (zt7 (i := 87) rfl)
theorem kM_166 : Cond.methodLink "PrefixCodeIndexModel" 166 (zy mM_holders) ∈ lw_tbl := (zt7 (i := 103) rfl)
theorem kM_169 : Cond.methodLink "PrefixCodeIndexModel" 169 (zy mM_sharedDigits) ∈ lw_tbl := (zt7 (i := 119) rfl)
theorem kM_174 : Cond.methodLink "PrefixCodeIndexModel" 174 (zy mM_daysLeft) ∈ lw_tbl := (zt7 (i := 145) rfl)
theorem kM_177 : Cond.methodLink "PrefixCodeIndexModel" 177 (zy mM_daysUntilFaded) ∈ lw_tbl := (zt7 (i := 153) rfl)
theorem kM_183 : Cond.methodLink "PrefixCodeIndexModel" 183 (zy mM_sign) ∈ lw_tbl := (zt7 (i := 194) rfl)
theorem kM_186 : Cond.methodLink "PrefixCodeIndexModel" 186 (zy mN_abs) ∈ lw_tbl := (zt7 (i := 202) rfl)
theorem kM_189 : Cond.methodLink "PrefixCodeIndexModel" 189 (zy mM_writesNumber) ∈ lw_tbl := (zt7 (i := 198) rfl)
theorem kM_192 : Cond.methodLink "PrefixCodeIndexModel" 192 (zy mM_writes) ∈ lw_tbl := (zt7 (i := 190) rfl)
theorem kM_212 : Cond.methodLink "PrefixCodeIndexModel" 212 (zy mM_here) ∈ lw_tbl := (zt7 (i := 237) rfl)
theorem kM_219 : Cond.methodLink "PrefixCodeIndexModel" 219 (zy mM_digit) ∈ lw_tbl := (zt7 (i := 233) rfl)
theorem kM_225 : Cond.methodLink "PrefixCodeIndexModel" 225 (zy mM_expects) ∈ lw_tbl := (zt8 (i := 11) rfl)
theorem kM_228 : Cond.methodLink "PrefixCodeIndexModel" 228 (zy mM_number) ∈ lw_tbl := (zt8 (i := 3) rfl)
theorem kM_231 : Cond.methodLink "PrefixCodeIndexModel" 231 (zy mM_numberBehind) ∈ lw_tbl := (zt8 (i := 7) rfl)
theorem kM_237 : Cond.methodLink "PrefixCodeIndexModel" 237 (zy mM_likeness) ∈ lw_tbl := (zt7 (i := 225) rfl)
theorem kM_240 : Cond.methodLink "PrefixCodeIndexModel" 240 (zy mM_readArguments) ∈ lw_tbl := (zt7 (i := 229) rfl)
theorem kM_243 : Cond.methodLink "PrefixCodeIndexModel" 243 (zy mM_readCommand) ∈ lw_tbl := (zt7 (i := 221) rfl)
theorem kM_246 : Cond.methodLink "PrefixCodeIndexModel" 246 (zy mM_does) ∈ lw_tbl := (zt8 (i := 15) rfl)
theorem knX_28 : Cond.methodLinkNest "PrefixCodeIndex" 28 (zy mT_init) "PrefixCodeIndex" ∈ lw_tbl := (zt1 (i := 143) rfl)
theorem knX_35 : Cond.methodLinkNest "PrefixCodeIndex" 35 (zy mR_init) "PrefixCodeIndex" ∈ lw_tbl := (zt1 (i := 156) rfl)
theorem knX_42 : Cond.methodLinkNest "PrefixCodeIndex" 42 (zy mP_init) "PrefixCodeIndex" ∈ lw_tbl := (zt1 (i := 175) rfl)
theorem knX_49 : Cond.methodLinkNest "PrefixCodeIndex" 49 (zy mL_init) "PrefixCodeIndex" ∈ lw_tbl := (zt1 (i := 215) rfl)
theorem knX_56 : Cond.methodLinkNest "PrefixCodeIndex" 56 (zy mE_init) "PrefixCodeIndex" ∈ lw_tbl := (zt1 (i := 232) rfl)
theorem knC_39 : Cond.methodLinkNest "PrefixCodeIndex$Contents" 39 (zy mE_init) "PrefixCodeIndex" ∈ lw_tbl := (zt1 (i := 43) rfl)
theorem knC_88 : Cond.methodLinkNest "PrefixCodeIndex$Contents" 88 (zy mX_isCode) "PrefixCodeIndex" ∈ lw_tbl := (zt3 (i := 87) rfl)
theorem knC_121 : Cond.methodLinkNest "PrefixCodeIndex$Contents" 121 (zy mX_isPrefix) "PrefixCodeIndex" ∈ lw_tbl := (zt3 (i := 146) rfl)
theorem knE_48 : Cond.methodLinkNest "PrefixCodeIndex$Entry" 48 (zy mX_hasPrefix) "PrefixCodeIndex" ∈ lw_tbl := (zt2 (i := 186) rfl)
theorem knL_34 : Cond.methodLinkNest "PrefixCodeIndex$Line" 34 (zy mX_withoutEnd) "PrefixCodeIndex" ∈ lw_tbl := (zt5 (i := 79) rfl)
theorem knT_53 : Cond.methodLinkNest "PrefixCodeIndex$Trie" 53 (zy mX_commonDigits) "PrefixCodeIndex" ∈ lw_tbl := (zt2 (i := 157) rfl)
theorem kcX_9 : Cond.classLink "PrefixCodeIndex" 9 "PrefixCodeIndex$Contents" ∈ lw_tbl := (zt1 (i := 34) rfl)
theorem kcX_19 : Cond.classLink "PrefixCodeIndex" 19 "PrefixCodeIndex$History" ∈ lw_tbl := (zt1 (i := 121) rfl)
theorem kcX_26 : Cond.classLink "PrefixCodeIndex" 26 "PrefixCodeIndex$Trie" ∈ lw_tbl := (zt1 (i := 141) rfl)
theorem kcX_33 : Cond.classLink "PrefixCodeIndex" 33 "PrefixCodeIndex$Ranking" ∈ lw_tbl := (zt1 (i := 154) rfl)
theorem kcX_40 : Cond.classLink "PrefixCodeIndex" 40 "PrefixCodeIndex$Program" ∈ lw_tbl := (zt1 (i := 173) rfl)
theorem kcX_47 : Cond.classLink "PrefixCodeIndex" 47 "PrefixCodeIndex$Line" ∈ lw_tbl := (zt1 (i := 213) rfl)
theorem kcX_54 : Cond.classLink "PrefixCodeIndex" 54 "PrefixCodeIndex$Entry" ∈ lw_tbl := (zt1 (i := 231) rfl)
theorem kcX_93 : Cond.classLink "PrefixCodeIndex" 93 "java/util/NoSuchElementException" ∈ lw_tbl := (zt2 (i := 236) rfl)
theorem kcX_100 : Cond.classLink "PrefixCodeIndex" 100 "java/lang/IllegalArgumentException" ∈ lw_tbl := (zt2 (i := 75) rfl)
theorem kcX_105 : Cond.classLink "PrefixCodeIndex" 105 "java/lang/IndexOutOfBoundsException" ∈ lw_tbl := (zt3 (i := 161) rfl)
theorem kcX_110 : Cond.classLink "PrefixCodeIndex" 110 "java/lang/IllegalStateException" ∈ lw_tbl := (zt3 (i := 177) rfl)
theorem kcX_267 : Cond.classLink "PrefixCodeIndex" 267 "java/lang/ArithmeticException" ∈ lw_tbl := (zt5 (i := 34) rfl)
theorem kcC_9 : Cond.classLink "PrefixCodeIndex$Contents" 9 "PrefixCodeIndex$Entry" ∈ lw_tbl := (zt1 (i := 40) rfl)
theorem kcH_11 : Cond.classLink "PrefixCodeIndex$History" 11 "PrefixCodeIndex$Contents" ∈ lw_tbl := (zt1 (i := 127) rfl)
theorem kcW_8 : Cond.classLink "PrefixCodeIndexLaw" 8 "PrefixCodeIndex" ∈ lw_tbl := (zt1 (i := 26) rfl)
theorem kcW_13 : Cond.classLink "PrefixCodeIndexLaw" 13 "java/lang/IllegalArgumentException" ∈ lw_tbl := (zt3 (i := 55) rfl)
theorem kcW_15 : Cond.classLink "PrefixCodeIndexLaw" 15 "java/lang/IllegalStateException" ∈ lw_tbl := (zt3 (i := 56) rfl)
theorem kcW_21 : Cond.classLink "PrefixCodeIndexLaw" 21 "java/util/NoSuchElementException" ∈ lw_tbl := (zt3 (i := 201) rfl)
theorem kcW_42 : Cond.classLink "PrefixCodeIndexLaw" 42 "java/lang/IndexOutOfBoundsException" ∈ lw_tbl := (zt4 (i := 4) rfl)
theorem kcW_138 : Cond.classLink "PrefixCodeIndexLaw" 138 "java/lang/ArithmeticException" ∈ lw_tbl := (zt5 (i := 16) rfl)
theorem kcW_174 : Cond.classLink "PrefixCodeIndexLaw" 174 "PrefixCodeIndexModel" ∈ lw_tbl := (zt6 (i := 36) rfl)
end
