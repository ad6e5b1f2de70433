/-! what is made -/
section ZNEW
theorem zs_new {Γ : zG} {l : Launch} {M : zM} {d mc ms : Nat} {FN : List Frame → Array Value → State → State → Prop} {pc : Nat} {ls : List (Option Value)} {st : List Value} {h : zH} {n k ks : Nat} {idx ci N : Nat} {C : String} {T : u_T} {ty : Nat → FieldType} {fs : List Value} (hd : decode (zby M) pc = .ok (.new idx, 3)) (hc : zCl[ci]? = some (C, T, N)) (hf : zClFine (C, T, N) ty) (hlk : Cond.classLink (zy M).cls idx C ∈ lw_tbl) (hin1 : Cond.instantiable C N ∈ lw_tbl) (hin2 : Cond.initialized C ∈ lw_tbl) (hfs : ∀ j, j < N → defaultValue (ty j) = vp_V fs j) (hk : k + 1 ≤ mc) (hks : ks + N ≤ ms) (K : Z Γ l M d mc ms FN (pc + 3) ls (.ref n :: st) (zu h n (.inr (ci, fs))) (n + 1) (k + 1) (ks + N)) : Z Γ l M d mc ms FN pc ls st h n k ks := fun p e R s m args below meth c lsA H locs B L P S => by
  obtain ⟨hx, hb, hml, hr, hown, hts, hlocks, hin, hxt, htr, hE, hbs, hR1, hR2, hR3, hR4⟩ := id B
  obtain ⟨g1, g2, g3, g4⟩ := hf
  have hKn := hE.1.1 ci _ hc
  refine W.newcK hx hb hown (hts _ hlk rfl) (hts _ hin1 rfl) (hts _ hin2 rfl) rfl hd (Nat.le_trans hk hR3) (Nat.le_trans hks hR4) hKn.2.1 P.1 fun H1 kC hkC e1 z1 o1 => ?_
  have z2 : H1.size = H.size + 1 := by rw [z1, P.1]
  have o2 : ∀ q : Nat, q < H.size → H1[q]? = H[q]? := fun q hq => o1 q (by rw [← P.1]; exact hq)
  exact K p e R s m args below meth c lsA H1 locs B L (P.push (zsz P S hbs) z2 o2 ⟨_, hc, (u_born ty (fun w hw => hts w (g1 w hw) (g2 w hw)) (fun _ q => q) hKn hkC e1 g3).to hfs⟩) (zSpush S z2 o2)
theorem zs_newa {Γ : zG} {l : Launch} {M : zM} {d mc ms : Nat} {FN : List Frame → Array Value → State → State → Prop} {pc : Nat} {ls : List (Option Value)} {st : List Value} {h : zH} {n k ks : Nat} {kd N : Nat} {atype : ArrayType} {x : Int32} {a0 : vp_A} (hd : decode (zby M) pc = .ok (.newarray atype, 2)) (hkd : kd < 6) (hty : newarray.typeOf atype = zTy kd) (hnm : (kd = 0 ∨ kd = 1) ∨ kd = 4 ∨ kd = 5) (hw : Cond.arrayClass (newarray.typeOf atype) ∈ lw_tbl) (ha : ∀ cA : ClassId, vp_cell cA a0 = arrV cA N (fun _ => defaultValue (newarray.typeOf atype))) (hx0 : ¬ x < 0) (hN : x.toNatClampNeg = N) (hby : N * componentBytes (newarray.typeOf atype) ≤ 536870912) (hk : k + 1 ≤ mc) (hks : ks + N ≤ ms) (K : Z Γ l M d mc ms FN (pc + 2) ls (.ref n :: st) (zu h n (.inl (kd, a0))) (n + 1) (k + 1) (ks + N)) : Z Γ l M d mc ms FN pc ls (.int x :: st) h n k ks := fun p e R s m args below meth c lsA H locs B L P S => by
  obtain ⟨hx, hb, hml, hr, hown, hts, hlocks, hin, hxt, htr, hE, hbs, hR1, hR2, hR3, hR4⟩ := id B
  refine va_newaK hx hb (hts _ hw rfl) rfl hd rfl hx0 hN hby (Nat.le_trans hk hR3) (Nat.le_trans hks hR4) P.1 fun H1 cA e1 z1 o1 hAr hNm => ?_
  have htt : (zTys Γ)[kd]? = some (zgA Γ kd, zTy kd) := by
    match kd, hkd with
    | 0, _ => rfl
    | 1, _ => rfl
    | 2, _ => rfl
    | 3, _ => rfl
    | 4, _ => rfl
    | 5, _ => rfl
  have hcA : cA = zgA Γ kd := by
    have h9 := (hE.1.2 kd _ htt).2
    have h8 : s.vm.findClass ("[" ++ (zTy kd).toString) = some (zgA Γ kd) := by
      rcases hnm with (rfl | rfl) | rfl | rfl <;> exact h9
    rw [hty] at hNm
    exact Option.some.inj (hNm.symm.trans h8)
  subst hcA
  have z2 : H1.size = H.size + 1 := by rw [z1, P.1]
  have o2 : ∀ q : Nat, q < H.size → H1[q]? = H[q]? := fun q hq => o1 q (by rw [← P.1]; exact hq)
  refine K p e R s m args below meth c lsA H1 locs B L (P.push (zsz P S hbs) z2 o2 ?_) (zSpush S z2 o2)
  show H1[n]? = some (vp_cell _ _)
  rw [ha]
  exact e1
theorem zs_newq {Γ : zG} {l : Launch} {M : zM} {d mc ms : Nat} {FN : List Frame → Array Value → State → State → Prop} {pc : Nat} {ls : List (Option Value)} {st : List Value} {h : zH} {n k ks : Nat} {kd N idx : Nat} {C : String} {x : Int32} (hd : decode (zby M) pc = .ok (.anewarray idx, 3)) (hkd : kd = 2 ∨ kd = 3) (hty : zTy kd = .object C) (hlk : Cond.classLink (zy M).cls idx C ∈ lw_tbl) (hov : Cond.arrayOver (.object C) ∈ lw_tbl) (hx0 : ¬ x < 0) (hN : x.toNatClampNeg = N) (hby : N * 4 ≤ 536870912) (hk : k + 1 ≤ mc) (hks : ks + N ≤ ms) (K : Z Γ l M d mc ms FN (pc + 3) ls (.ref n :: st) (zu h n (.inl (kd, N, .inr (.inr (.inr (.inr (fun _ => none))))))) (n + 1) (k + 1) (ks + N)) : Z Γ l M d mc ms FN pc ls (.int x :: st) h n k ks := fun p e R s m args below meth c lsA H locs B L P S => by
  obtain ⟨hx, hb, hml, hr, hown, hts, hlocks, hin, hxt, htr, hE, hbs, hR1, hR2, hR3, hR4⟩ := id B
  subst hN
  have hov2 : va_AO C s := hE.2.1 _ hov rfl
  refine W.anew hx hb hown (hts _ hlk rfl) (va_AO.use hov2) rfl hd rfl hx0 hby (Nat.le_trans hk hR3) (Nat.le_trans hks hR4) fun cA kA comp f1 f2 f3 f4 => ?_
  have hcA : cA = zgA Γ kd := by
    rcases hkd with rfl | rfl
    · cases hty
      obtain ⟨kA9, comp9, -, -, -, g4⟩ := (hE.1.2 2 _ rfl).2
      exact Option.some.inj (f1.symm.trans g4)
    · cases hty
      obtain ⟨kA9, comp9, -, -, -, g4⟩ := (hE.1.2 3 _ rfl).2
      exact Option.some.inj (f1.symm.trans g4)
  subst hcA
  generalize hH1 : H.push ({ cls := zgA Γ kd, slots := Array.replicate x.toNatClampNeg .null, vm := .none } : Cell) = H1
  have z1 : H1.size = H.size + 1 := by rw [← hH1, Array.size_push]
  have e1 : H1[H.size]? = some (arrV (zgA Γ kd) x.toNatClampNeg (fun _ => .null)) := by rw [← hH1, Array.getElem?_push_size, ← arrV_new]
  have o1 : ∀ q : Nat, q < H.size → H1[q]? = H[q]? := fun q hq => by rw [← hH1, Array.getElem?_push, if_neg (Nat.ne_of_lt hq)]
  have hn := P.1
  subst hn
  exact K p e R s m args below meth c lsA H1 locs B L (P.push (zsz P S hbs) z1 o1 e1) (zSpush S z1 o1)
theorem zoi1 : Cond.instanceMethod Lib.objectInit ∈ lw_tbl := (zt1 (i := 32) rfl)
theorem zoi2 : Cond.code Lib.objectInit ⟨#[0xb1]⟩ 1 none ∈ lw_tbl := (zt1 (i := 33) rfl)
theorem zs_objInit {Γ : zG} {l : Launch} {M : zM} {d mc ms : Nat} {FN : List Frame → Array Value → State → State → Prop} {pc : Nat} {ls : List (Option Value)} {st : List Value} {h : zH} {n k ks : Nat} {idx a : Nat} (hd : decode (zby M) pc = .ok (.invokespecial idx, 3)) (hlk : Cond.methodLink (zy M).cls idx Lib.objectInit ∈ lw_tbl) (hw : (st.map fun v => v.category).sum ≤ 8) (K : Z Γ l M d mc ms FN (pc + 3) ls st h n k ks) : Z Γ l M d mc ms FN pc ls (.ref a :: st) h n k ks := fun p e R s m args below meth c lsA H locs B L P S => by
  obtain ⟨hx, hb, hml, hr, hown, hts, hlocks, hin, hxt, htr, hE, hbs, hR1, hR2, hR3, hR4⟩ := id B
  refine W.objInit hx hb hown (hts _ hlk rfl) (hts _ zoi1 rfl) (hts _ zoi2 rfl) rfl (by rw [hml]; exact L.1) rfl hd (by omega) ?_ (K p e R s m args below meth c lsA H locs B L P S)
  show 2 * 0 + _ + 12 ≤ _
  omega
end ZNEW
/-! calls -/
section ZCALL
theorem zRunK {p : Program} {l : Launch} {e : Env} {R : Room} {s : State} {m : MethodId} {args : Array Value} {below : List Frame} {meth : Method} {c : Code} {H : Heap} {locs : List Loc} {cells slots mc ms : Nat} {Q : State → Prop} {pc : Nat} {lsA : Array Slot} {st0 rest : List Value} {Γ : zG} {Q9 : zQ} {a : Array Value} (hr : vx_Run p l e R s m args below meth c H locs cells slots mc ms (F0 m pc lsA st0) rest (zPost Γ Q9 a) (zPostX Γ Q9) (zSp Γ)) (S : va_S (zSp Γ) s.heap H locs)
    (kk : ∀ (v : Option Value) (h1 : zH) (n1 : Nat) (H1 : Heap) (locs1 : List Loc), Q9 (.inl v) h1 n1 → zRel Γ h1 n1 H1 → va_S (zSp Γ) s.heap H1 locs1 → W p l e R s m args below meth c H1 locs1 (cells + mc) (slots + ms) Q (F0 m (pc + 3) lsA (v.toList ++ rest)))
    (kx : ∀ (E : String) (h1 : zH) (n1 : Nat) (H1 : Heap) (locs1 : List Loc) (ce : Cell) (q9 : Nat), Q9 (.inr E) h1 n1 → zRel Γ h1 n1 H1 → va_S (zSp Γ) s.heap H1 locs1 → H1[q9]? = some ce → ce.vm = .none → s.vm.findClass E = some ce.cls → vx_W p l e R s m args below meth c H1 locs1 (cells + mc) (slots + ms) Q (F0 m pc lsA rest) q9) :
    W p l e R s m args below meth c H locs cells slots Q (F0 m pc lsA st0) := by
  intro T hT X
  rcases hr T hT X with ⟨v, st₀, t, T', L, h0, X', hL, e1, e2, ⟨⟨v9, h1, n1, hv, hq, hp⟩, hF⟩, st⟩ | ⟨q, st₀, t, T', L, E, ce, h0, X', hL, e1, e2, ⟨⟨h1, n1, hq, hp⟩, hF⟩, hce, hcv, hcl, st⟩
  · cases hv
    obtain ⟨-, -, k3⟩ := vx_keep h0 e1 S (fun _ _ z => z) (fun _ z => z) hL hF
    rw [← e1] at hp
    obtain ⟨t2, a1, b1⟩ := kk v h1 n1 T'.heap (locs ++ L) hq hp k3 T' rfl X'
    exact ⟨t2, st t2 a1, b1⟩
  · obtain ⟨-, -, k3⟩ := vx_keep h0 e1 S (fun _ _ z => z) (fun _ z => z) hL hF
    rw [← e1] at hp
    obtain ⟨t2, a1, b1⟩ := kx E h1 n1 T'.heap (locs ++ L) ce q hq hp k3 (by rw [e1]; exact hce) hcv hcl T' rfl X'
    exact ⟨t2, st.trans a1, b1⟩
theorem zPre_blind {Γ : zG} {av : List Value} {h : zH} {n : Nat} : FrameBlind (zPre Γ av h n) := fun a U g mk q => ⟨q.1, q.2.1, zEnv.to (s := U) (t := U.calling g mk a) q.2.2.1 (State.WarmedH.refl U) (Nat.le_refl _) (fun _ _ _ => rfl), q.2.2.2⟩
theorem zPre_to {Γ : zG} {av : List Value} {h : zH} {n : Nat} {s U : State} {H : Heap} {locs : List Loc} (hE : zEnv Γ s) (hbs : zgB Γ ≤ s.heap.size) (P : zRel Γ h n H) (S : va_S (zSp Γ) s.heap H locs) (hU : U.heap = H) (hW : s.WarmedH U.vm) : zPre Γ av h n av.toArray U := ⟨rfl, by rw [hU]; exact P, hE.to hW (by rw [hU]; exact S.1) (fun a h1 h2 => by rw [hU]; exact S.2.1 a h1 h2), by rw [hU]; exact Nat.le_trans hbs S.1⟩
theorem zGood {w : Cond} (h : w ∈ lw_tbl) (hg : goodWord w = true) : w ∈ zall := List.mem_filter.mpr ⟨h, hg⟩
theorem zGoodIn {M : zM} (h : zcw M ∈ lw_tbl) : GoodIn zall (zcw M :: zall) := fun w hw => by
  rcases List.mem_cons.mp hw with rfl | hw
  · exact ⟨zGood h (zcw_good M), good_of_word (zcw_good M)⟩
  · exact ⟨hw, good_of_word (List.mem_filter.mp hw).2⟩
theorem zCallB {Γ : zG} {l : Launch} {M M2 : zM} {d d2 mc ms mc2 ms2 np idx : Nat} {p : Program} {R : Room} {s : State} {m : MethodId} {args : Array Value} {meth : Method} {c : Code} (B : zB Γ l M d mc ms p R s m args meth c) (hm : zMd M2 np) (hxt2 : zxt M2 = []) (hl : Cond.methodLink (zy M).cls idx (zy M2) ∈ lw_tbl) (hdd : d2 + 1 ≤ d) : CallB R s args (zy M).cls idx (zy M2) (zby M2) (zml M2) (zrt M2) (zcw M2 :: zall) (zrm d2 mc2 ms2) mc2 ms2 np := by
  obtain ⟨hx, hb, hml, hr, hown, hts, hlocks, hin, hxt, htr, hE, hbs, hR1, hR2, hR3, hR4⟩ := B
  obtain ⟨g1, g2, g3, g4, g5⟩ := hm
  have hcw : zcw M2 = Cond.code (zy M2) (zby M2) (zml M2) (zrt M2) := by unfold zcw; rw [hxt2]
  refine callB_of np (Ts := zall) (ws' := zall) (fun w hw => hts w (List.mem_filter.mp hw).1 (List.mem_filter.mp hw).2) (zGoodIn g1) (by rw [hcw]) rfl rfl (hts _ g2 rfl) (hts _ hl rfl) g3 ⟨?_, ?_⟩
  · show d2 + 8 + 1 ≤ R.frames
    omega
  · show 8 + (zml M2 + 11) + (40 * d2 + 200) ≤ R.locals
    omega
theorem zCallN {Γ : zG} {l : Launch} {M M2 : zM} {d d2 mc ms mc2 ms2 np idx : Nat} {host : String} {p : Program} {R : Room} {s : State} {m : MethodId} {args : Array Value} {meth : Method} {c : Code} (B : zB Γ l M d mc ms p R s m args meth c) (hm : zMd M2 np) (hxt2 : zxt M2 = []) (hl : Cond.methodLinkNest (zy M).cls idx (zy M2) host ∈ lw_tbl) (hdd : d2 + 1 ≤ d) : va_CN R s args (zy M).cls idx (zy M2) host (zby M2) (zml M2) (zrt M2) (zcw M2 :: zall) (zrm d2 mc2 ms2) mc2 ms2 np := by
  obtain ⟨hx, hb, hml, hr, hown, hts, hlocks, hin, hxt, htr, hE, hbs, hR1, hR2, hR3, hR4⟩ := B
  obtain ⟨g1, g2, g3, g4, g5⟩ := hm
  have hcw : zcw M2 = Cond.code (zy M2) (zby M2) (zml M2) (zrt M2) := by unfold zcw; rw [hxt2]
  refine va_cnB np (Ts := zall) (ws' := zall) (fun w hw => hts w (List.mem_filter.mp hw).1 (List.mem_filter.mp hw).2) (zGoodIn g1) (by rw [hcw]) rfl rfl (hE.2.1 _ hl rfl) (hts _ g2 rfl) g3 ⟨?_, ?_⟩
  · show d2 + 8 + 1 ≤ R.frames
    omega
  · show 8 + (zml M2 + 11) + (40 * d2 + 200) ≤ R.locals
    omega
theorem zRecv {Γ : zG} {s : State} {h : zH} {n b ci N : Nat} {fs : List Value} {C : String} {T : u_T} {H : Heap} (hE : zEnv Γ s) (P : zRel Γ h n H) (hh : h b = some (.inr (ci, fs))) (hc : zCl[ci]? = some (C, T, N)) : ∃ cellB : Cell, H[b]? = some cellB ∧ cellB.vm.isStatics = false ∧ s.vm.findClass C = some cellB.cls := by
  obtain ⟨-, r, h1, cell, q1, q2, q3, q4⟩ := P.2 b _ hh
  obtain ⟨hS, hfc, -⟩ := hE.1.1 ci _ hc
  exact ⟨cell, q1, by rw [q3]; rfl, by rw [q2]; exact hfc⟩
theorem zs_callV {Γ : zG} {l : Launch} {M : zM} {d mc ms : Nat} {FN : List Frame → Array Value → State → State → Prop} {pc : Nat} {ls : List (Option Value)} {st : List Value} {h : zH} {n k ks : Nat} (M2 : zM) {np d2 mc2 ms2 idx b ci N : Nat} {T : u_T} {fs As rest : List Value} (Q2 : zQ) (hd : decode (zby M) pc = .ok (.invokevirtual idx, 3)) (hl : Cond.methodLink (zy M).cls idx (zy M2) ∈ lw_tbl) (hm : zMd M2 np) (hi : zMi M2) (hv : zMv M2) (hxt2 : zxt M2 = []) (hh : h b = some (.inr (ci, fs))) (hc : zCl[ci]? = some ((zy M2).cls, T, N)) (hn : As.length = np) (hst : st = As.reverse ++ .ref b :: rest) (hw : (rest.map fun v => v.category).sum ≤ 8) (hdd : d2 + 1 ≤ d) (hk : k + mc2 ≤ mc) (hks : ks + ms2 ≤ ms) (hC : zC Γ l d2 M2 (.ref b :: As) h n mc2 ms2 Q2)
    (kk : ∀ (v : Option Value) (h1 : zH) (n1 : Nat), Q2 (.inl v) h1 n1 → Z Γ l M d mc ms FN (pc + 3) ls (v.toList ++ rest) h1 n1 (k + mc2) (ks + ms2)) (kx : ∀ (E : String) (h1 : zH) (n1 : Nat), Q2 (.inr E) h1 n1 → zX Γ l M d mc ms FN pc ls E h1 n1 (k + mc2) (ks + ms2)) : Z Γ l M d mc ms FN pc ls st h n k ks := fun p e R s m args below meth c lsA H locs B L P S => by
  obtain ⟨hx, hb, hml, hr, hown, hts, hlocks, hin, hxt, htr, hE, hbs, hR1, hR2, hR3, hR4⟩ := id B
  exact zRunK (vx_runV (Ts := zall) (nL := zml M) (As := As) (rest := rest) (n := np) ⟨hx, hb, hml, hown, fun w hw => hts w (List.mem_filter.mp hw).1 (List.mem_filter.mp hw).2⟩ hC ⟨zCallB B hm hxt2 hl hdd, hts _ hi rfl, hts _ hv rfl⟩ ⟨zPre_blind, zRecv hE P hh hc, fun U hU hW => zPre_to hE hbs P S hU hW⟩ rfl hn L.1 hst (lv_room hw) hd ⟨Nat.le_trans hk hR3, Nat.le_trans hks hR4⟩) S
    (fun v h1 n1 H1 locs1 hq P1 S1 => kk v h1 n1 hq p e R s m args below meth c lsA H1 locs1 B L P1 S1) (fun E h1 n1 H1 locs1 ce q9 hq P1 S1 e1 e2 e3 => kx E h1 n1 hq p e R s m args below meth c lsA H1 locs1 B L P1 S1 ce q9 _ e1 e2 e3)
theorem zs_callS {Γ : zG} {l : Launch} {M : zM} {d mc ms : Nat} {FN : List Frame → Array Value → State → State → Prop} {pc : Nat} {ls : List (Option Value)} {st : List Value} {h : zH} {n k ks : Nat} (M2 : zM) {np d2 mc2 ms2 idx : Nat} {As rest : List Value} (Q2 : zQ) (hd : decode (zby M) pc = .ok (.invokestatic idx, 3)) (hl : Cond.methodLink (zy M).cls idx (zy M2) ∈ lw_tbl) (hm : zMd M2 np) (hi : zMs M2) (hxt2 : zxt M2 = []) (hn : As.length = np) (hst : st = As.reverse ++ rest) (hw : (rest.map fun v => v.category).sum ≤ 8) (hdd : d2 + 1 ≤ d) (hk : k + mc2 ≤ mc) (hks : ks + ms2 ≤ ms) (hC : zC Γ l d2 M2 As h n mc2 ms2 Q2)
    (kk : ∀ (v : Option Value) (h1 : zH) (n1 : Nat), Q2 (.inl v) h1 n1 → Z Γ l M d mc ms FN (pc + 3) ls (v.toList ++ rest) h1 n1 (k + mc2) (ks + ms2)) (kx : ∀ (E : String) (h1 : zH) (n1 : Nat), Q2 (.inr E) h1 n1 → zX Γ l M d mc ms FN pc ls E h1 n1 (k + mc2) (ks + ms2)) : Z Γ l M d mc ms FN pc ls st h n k ks := fun p e R s m args below meth c lsA H locs B L P S => by
  obtain ⟨hx, hb, hml, hr, hown, hts, hlocks, hin, hxt, htr, hE, hbs, hR1, hR2, hR3, hR4⟩ := id B
  exact zRunK (vx_runS (Ts := zall) (nL := zml M) (As := As) (rest := rest) (n := np) ⟨hx, hb, hml, hown, fun w hw => hts w (List.mem_filter.mp hw).1 (List.mem_filter.mp hw).2⟩ hC ⟨zCallB B hm hxt2 hl hdd, hts _ hi rfl⟩ ⟨zPre_blind, fun U hU hW => zPre_to hE hbs P S hU hW⟩ rfl hn L.1 hst (lv_room hw) hd ⟨Nat.le_trans hk hR3, Nat.le_trans hks hR4⟩) S
    (fun v h1 n1 H1 locs1 hq P1 S1 => kk v h1 n1 hq p e R s m args below meth c lsA H1 locs1 B L P1 S1) (fun E h1 n1 H1 locs1 ce q9 hq P1 S1 e1 e2 e3 => kx E h1 n1 hq p e R s m args below meth c lsA H1 locs1 B L P1 S1 ce q9 _ e1 e2 e3)
theorem zs_callSN {Γ : zG} {l : Launch} {M : zM} {d mc ms : Nat} {FN : List Frame → Array Value → State → State → Prop} {pc : Nat} {ls : List (Option Value)} {st : List Value} {h : zH} {n k ks : Nat} (M2 : zM) {np d2 mc2 ms2 idx : Nat} {host : String} {As rest : List Value} (Q2 : zQ) (hd : decode (zby M) pc = .ok (.invokestatic idx, 3)) (hl : Cond.methodLinkNest (zy M).cls idx (zy M2) host ∈ lw_tbl) (hm : zMd M2 np) (hi : zMs M2) (hxt2 : zxt M2 = []) (hn : As.length = np) (hst : st = As.reverse ++ rest) (hw : (rest.map fun v => v.category).sum ≤ 8) (hdd : d2 + 1 ≤ d) (hk : k + mc2 ≤ mc) (hks : ks + ms2 ≤ ms) (hC : zC Γ l d2 M2 As h n mc2 ms2 Q2)
    (kk : ∀ (v : Option Value) (h1 : zH) (n1 : Nat), Q2 (.inl v) h1 n1 → Z Γ l M d mc ms FN (pc + 3) ls (v.toList ++ rest) h1 n1 (k + mc2) (ks + ms2)) (kx : ∀ (E : String) (h1 : zH) (n1 : Nat), Q2 (.inr E) h1 n1 → zX Γ l M d mc ms FN pc ls E h1 n1 (k + mc2) (ks + ms2)) : Z Γ l M d mc ms FN pc ls st h n k ks := fun p e R s m args below meth c lsA H locs B L P S => by
  obtain ⟨hx, hb, hml, hr, hown, hts, hlocks, hin, hxt, htr, hE, hbs, hR1, hR2, hR3, hR4⟩ := id B
  exact zRunK (vx_runSN (Ts := zall) (nL := zml M) (As := As) (rest := rest) (n := np) ⟨hx, hb, hml, hown, fun w hw => hts w (List.mem_filter.mp hw).1 (List.mem_filter.mp hw).2⟩ hC ⟨zCallN B hm hxt2 hl hdd, hts _ hi rfl, trivial⟩ ⟨zPre_blind, fun U hU hW => zPre_to hE hbs P S hU hW⟩ rfl hn L.1 hst (lv_room hw) hd ⟨Nat.le_trans hk hR3, Nat.le_trans hks hR4⟩) S
    (fun v h1 n1 H1 locs1 hq P1 S1 => kk v h1 n1 hq p e R s m args below meth c lsA H1 locs1 B L P1 S1) (fun E h1 n1 H1 locs1 ce q9 hq P1 S1 e1 e2 e3 => kx E h1 n1 hq p e R s m args below meth c lsA H1 locs1 B L P1 S1 ce q9 _ e1 e2 e3)
theorem zs_callI {Γ : zG} {l : Launch} {M : zM} {d mc ms : Nat} {FN : List Frame → Array Value → State → State → Prop} {pc : Nat} {ls : List (Option Value)} {st : List Value} {h : zH} {n k ks : Nat} (M2 : zM) {np d2 mc2 ms2 idx b : Nat} {As rest : List Value} (Q2 : zQ) (hd : decode (zby M) pc = .ok (.invokespecial idx, 3)) (hl : Cond.methodLink (zy M).cls idx (zy M2) ∈ lw_tbl) (hm : zMd M2 np) (hi : zMi M2) (hnm : (zy M2).name = "<init>") (hrt2 : zrt M2 = none) (hxt2 : zxt M2 = []) (hn : As.length = np) (hst : st = As.reverse ++ .ref b :: rest) (hw : (rest.map fun v => v.category).sum ≤ 8) (hdd : d2 + 1 ≤ d) (hk : k + mc2 ≤ mc) (hks : ks + ms2 ≤ ms) (hC : zC Γ l d2 M2 (.ref b :: As) h n mc2 ms2 Q2)
    (kk : ∀ (v : Option Value) (h1 : zH) (n1 : Nat), Q2 (.inl v) h1 n1 → Z Γ l M d mc ms FN (pc + 3) ls (v.toList ++ rest) h1 n1 (k + mc2) (ks + ms2)) (kx : ∀ (E : String) (h1 : zH) (n1 : Nat), Q2 (.inr E) h1 n1 → zX Γ l M d mc ms FN pc ls E h1 n1 (k + mc2) (ks + ms2)) : Z Γ l M d mc ms FN pc ls st h n k ks := fun p e R s m args below meth c lsA H locs B L P S => by
  obtain ⟨hx, hb, hml, hr, hown, hts, hlocks, hin, hxt, htr, hE, hbs, hR1, hR2, hR3, hR4⟩ := id B
  have hCB := zCallB (mc2 := mc2) (ms2 := ms2) B hm hxt2 hl hdd
  rw [hrt2] at hCB
  exact zRunK (vx_runI (Ts := zall) (nL := zml M) (As := As) (rest := rest) (n := np) ⟨hx, hb, hml, hown, fun w hw => hts w (List.mem_filter.mp hw).1 (List.mem_filter.mp hw).2⟩ hC ⟨hCB, hnm, hts _ hi rfl⟩ ⟨zPre_blind, fun U hU hW => zPre_to hE hbs P S hU hW⟩ rfl hn L.1 hst (lv_room hw) hd ⟨Nat.le_trans hk hR3, Nat.le_trans hks hR4⟩) S
    (fun v h1 n1 H1 locs1 hq P1 S1 => kk v h1 n1 hq p e R s m args below meth c lsA H1 locs1 B L P1 S1) (fun E h1 n1 H1 locs1 ce q9 hq P1 S1 e1 e2 e3 => kx E h1 n1 hq p e R s m args below meth c lsA H1 locs1 B L P1 S1 ce q9 _ e1 e2 e3)
theorem zs_callIN {Γ : zG} {l : Launch} {M : zM} {d mc ms : Nat} {FN : List Frame → Array Value → State → State → Prop} {pc : Nat} {ls : List (Option Value)} {st : List Value} {h : zH} {n k ks : Nat} (M2 : zM) {np d2 mc2 ms2 idx b : Nat} {host : String} {As rest : List Value} (Q2 : zQ) (hd : decode (zby M) pc = .ok (.invokespecial idx, 3)) (hl : Cond.methodLinkNest (zy M).cls idx (zy M2) host ∈ lw_tbl) (hm : zMd M2 np) (hi : zMi M2) (hnm : (zy M2).name = "<init>") (hrt2 : zrt M2 = none) (hxt2 : zxt M2 = []) (hn : As.length = np) (hst : st = As.reverse ++ .ref b :: rest) (hw : (rest.map fun v => v.category).sum ≤ 8) (hdd : d2 + 1 ≤ d) (hk : k + mc2 ≤ mc) (hks : ks + ms2 ≤ ms) (hC : zC Γ l d2 M2 (.ref b :: As) h n mc2 ms2 Q2)
    (kk : ∀ (v : Option Value) (h1 : zH) (n1 : Nat), Q2 (.inl v) h1 n1 → Z Γ l M d mc ms FN (pc + 3) ls (v.toList ++ rest) h1 n1 (k + mc2) (ks + ms2)) (kx : ∀ (E : String) (h1 : zH) (n1 : Nat), Q2 (.inr E) h1 n1 → zX Γ l M d mc ms FN pc ls E h1 n1 (k + mc2) (ks + ms2)) : Z Γ l M d mc ms FN pc ls st h n k ks := fun p e R s m args below meth c lsA H locs B L P S => by
  obtain ⟨hx, hb, hml, hr, hown, hts, hlocks, hin, hxt, htr, hE, hbs, hR1, hR2, hR3, hR4⟩ := id B
  have hCB := zCallN (mc2 := mc2) (ms2 := ms2) B hm hxt2 hl hdd
  rw [hrt2] at hCB
  exact zRunK (vx_runIN (Ts := zall) (nL := zml M) (As := As) (rest := rest) (n := np) ⟨hx, hb, hml, hown, fun w hw => hts w (List.mem_filter.mp hw).1 (List.mem_filter.mp hw).2⟩ hC ⟨hCB, hnm, hts _ hi rfl⟩ ⟨zPre_blind, fun U hU hW => zPre_to hE hbs P S hU hW⟩ rfl hn L.1 hst (lv_room hw) hd ⟨Nat.le_trans hk hR3, Nat.le_trans hks hR4⟩) S
    (fun v h1 n1 H1 locs1 hq P1 S1 => kk v h1 n1 hq p e R s m args below meth c lsA H1 locs1 B L P1 S1) (fun E h1 n1 H1 locs1 ce q9 hq P1 S1 e1 e2 e3 => kx E h1 n1 hq p e R s m args below meth c lsA H1 locs1 B L P1 S1 ce q9 _ e1 e2 e3)
/-- a static call of a method with an exception table -/
theorem zs_callSX {Γ : zG} {l : Launch} {M : zM} {d mc ms : Nat} {FN : List Frame → Array Value → State → State → Prop} {pc : Nat} {ls : List (Option Value)} {st : List Value} {h : zH} {n k ks : Nat} (M2 : zM) {np d2 mc2 ms2 idx : Nat} {As rest : List Value} (Q2 : zQ) (hd : decode (zby M) pc = .ok (.invokestatic idx, 3)) (hl : Cond.methodLink (zy M).cls idx (zy M2) ∈ lw_tbl) (hm : zMd M2 np) (hi : zMs M2) (hxt2 : zxt M2 ≠ []) (hn : As.length = np) (hst : st = As.reverse ++ rest) (hw : (rest.map fun v => v.category).sum ≤ 8) (hdd : d2 + 1 ≤ d) (hk : k + mc2 ≤ mc) (hks : ks + ms2 ≤ ms) (hC : zC Γ l d2 M2 As h n mc2 ms2 Q2)
    (kk : ∀ (v : Option Value) (h1 : zH) (n1 : Nat), Q2 (.inl v) h1 n1 → Z Γ l M d mc ms FN (pc + 3) ls (v.toList ++ rest) h1 n1 (k + mc2) (ks + ms2)) (kx : ∀ (E : String) (h1 : zH) (n1 : Nat), Q2 (.inr E) h1 n1 → zX Γ l M d mc ms FN pc ls E h1 n1 (k + mc2) (ks + ms2)) : Z Γ l M d mc ms FN pc ls st h n k ks := fun p e R s m args below meth c lsA H locs B L P S => by
  obtain ⟨hx, hb, hml, hr, hown, hts, hlocks, hin, hxt, htr, hE, hbs, hR1, hR2, hR3, hR4⟩ := id B
  obtain ⟨g1, g2, g3, g4, g5⟩ := id hm
  have hcw : zcw M2 = Cond.codeWith (zy M2) (zby M2) (zml M2) (zrt M2) (zxt M2) := by
    unfold zcw
    split
    · rename_i h9; exact absurd h9 hxt2
    · rfl
  have hG : GoodIn zall (va_wsS (zy M).cls idx (zy M2) (zcw M2 :: zall)) := fun w hw => by
    unfold va_wsS at hw
    rcases List.mem_append.mp hw with h9 | h9
    · rcases List.mem_cons.mp h9 with rfl | h9
      · exact ⟨zGood hl rfl, good_of_word rfl⟩
      · rcases List.mem_cons.mp h9 with rfl | h9
        · exact ⟨zGood hi rfl, good_of_word rfl⟩
        · rcases List.mem_cons.mp h9 with rfl | h9
          · exact ⟨zGood g2 rfl, good_of_word rfl⟩
          · cases h9
    · exact zGoodIn g1 w h9
  exact zRunK (vx_runSX (Ts := zall) (nL := zml M) (As := As) (rest := rest) (n := np) (hh := zxt M2) ⟨hx, hb, hml, hown, fun w hw => hts w (List.mem_filter.mp hw).1 (List.mem_filter.mp hw).2⟩ hC (vx_cwSW (Ts := zall) (ws' := zall) np (fun w hw => hts w (List.mem_filter.mp hw).1 (List.mem_filter.mp hw).2) hG (by rw [hcw]) rfl rfl g3 ⟨(by show d2 + 8 + 1 ≤ R.frames; omega), (by show 8 + (zml M2 + 11) + (40 * d2 + 200) ≤ R.locals; omega)⟩) ⟨zPre_blind, fun U hU hW => zPre_to hE hbs P S hU hW⟩ rfl hn L.1 hst (lv_room hw) hd ⟨Nat.le_trans hk hR3, Nat.le_trans hks hR4⟩) S
    (fun v h1 n1 H1 locs1 hq P1 S1 => kk v h1 n1 hq p e R s m args below meth c lsA H1 locs1 B L P1 S1) (fun E h1 n1 H1 locs1 ce q9 hq P1 S1 e1 e2 e3 => kx E h1 n1 hq p e R s m args below meth c lsA H1 locs1 B L P1 S1 ce q9 _ e1 e2 e3)
theorem zx_out {Γ : zG} {l : Launch} {M : zM} {d mc ms : Nat} {Q : zQ} {pc : Nat} {ls : List (Option Value)} {E : String} {h : zH} {n k ks : Nat} (hxt0 : zxt M = []) (hk : k ≤ mc) (hks : ks ≤ ms) (hQ : Q (.inr E) h n) : zX Γ l M d mc ms (zFin Γ Q mc ms) pc ls E h n k ks := fun p e R s m args below meth c lsA H locs B L P S ce q9 rest e1 e2 e3 => by
  obtain ⟨hx, hb, hml, hr, hown, hts, hlocks, hin, hxt, htr, hE, hbs, hR1, hR2, hR3, hR4⟩ := id B
  refine vx_out (E := E) (ce := ce) (fun x hx9 => ?_) hlocks e1 e2 e3 (fun t ht hal => ⟨⟨h, n, hQ, by rw [ht]; exact P⟩, S.F ht⟩) S.2.2 hk hks
  rw [hxt, hxt0] at hx9
  cases hx9
theorem zx_catch {Γ : zG} {l : Launch} {M : zM} {d mc ms : Nat} {FN : List Frame → Array Value → State → State → Prop} {pc : Nat} {ls : List (Option Value)} {E nm : String} {h : zH} {n k ks : Nat} (pre : List (Nat × Nat × Nat × Nat)) (x : Nat × Nat × Nat × Nat) (suf : List (Nat × Nat × Nat × Nat)) (hsp : zxt M = pre ++ x :: suf) (hpass : ∀ z ∈ pre, z.2.2.2 ≠ 0 ∧ ∃ nm9 : String, Cond.classLink (zy M).cls z.2.2.2 nm9 ∈ lw_tbl ∧ (E, nm9) ∈ zNcL) (hcov : covers ⟨x.1, x.2.1, x.2.2.1, x.2.2.2⟩ pc = true) (h0 : x.2.2.2 ≠ 0) (hlk : Cond.classLink (zy M).cls x.2.2.2 nm ∈ lw_tbl) (hcast : Cond.castable E nm ∈ lw_tbl) (K : ∀ q : Nat, Z Γ l M d mc ms FN x.2.2.1 ls [.ref q] h n k ks) : zX Γ l M d mc ms FN pc ls E h n k ks := fun p e R s m args below meth c lsA H locs B L P S ce q9 rest e1 e2 e3 => by
  obtain ⟨hx, hb, hml, hr, hown, hts, hlocks, hin, hxt, htr, hE, hbs, hR1, hR2, hR3, hR4⟩ := id B
  refine vx_catch (E := E) (ce := ce) (name := nm) hown (tableOf pre) ⟨x.1, x.2.1, x.2.2.1, x.2.2.2⟩ (tableOf suf) (by rw [hxt, hsp]; simp [tableOf]) (fun z hz => ?_) hcov h0 (hts _ hlk rfl) (va_Nw.use rfl (hE.2.1 _ hcast rfl)) e1 e2 e3 (K q9 p e R s m args below meth c lsA H locs B L P S)
  obtain ⟨y, hy, rfl⟩ := List.mem_map.mp hz
  obtain ⟨g0, nm9, g1, g2⟩ := hpass y hy
  exact Or.inr ⟨g0, nm9, hts _ g1 rfl, hE.2.2.2.2.2.1 _ g2⟩
/-- what a throw of a class with a text needs of the tables -/
def zTh (own : String) (ik ic : Nat) (cls : String) : Prop := Bundle.fit cls = true ∧ (∀ q ∈ ["java/lang/RuntimeException", "java/lang/Exception"], Bundle.fit q = true) ∧ Cond.classLink own ik cls ∈ lw_tbl ∧ Cond.initialized cls ∈ lw_tbl ∧ own = "PrefixCodeIndex" ∧ (∀ w ∈ vx_atS own ic cls ["java/lang/RuntimeException", "java/lang/Exception"], w ∈ lw_tbl) ∧ (∀ w ∈ Cond.classLink own ik cls :: Cond.initialized cls :: vx_atS own ic cls ["java/lang/RuntimeException", "java/lang/Exception"], vx_ot w = true) ∧ ∀ w ∈ vx_atS own ic cls ["java/lang/RuntimeException", "java/lang/Exception"], (goodWord w || zOdd w) = true
theorem zWd {Γ : zG} {s : State} {args : Array Value} (hts : ∀ w ∈ lw_tbl, goodWord w = true → w.before args s = true) (hE : zEnv Γ s) {w : Cond} (hw : w ∈ lw_tbl) (hot : vx_ot w = true) (hg : (goodWord w || zOdd w) = true) : w.before args s = true := by
  cases g : goodWord w with
  | true => exact hts w hw g
  | false =>
    rw [g] at hg
    have ho : w.onTables = true := by
      unfold vx_ot at hot
      rw [g] at hot
      simpa using hot
    exact va_Nw.use ho (hE.2.1 w hw (by simpa using hg))
theorem zs_throw {Γ : zG} {l : Launch} {M : zM} {d mc ms : Nat} {Q : zQ} {pc : Nat} {ls : List (Option Value)} {st : List Value} {h : zH} {n k ks ik is ic : Nat} {cls text : String} (hT : zTh (zy M).cls ik ic cls) (g6 : (is, text) ∈ zTexts) (hxt0 : zxt M = []) (d0 : decode (zby M) pc = .ok (.new ik, 3)) (d3 : decode (zby M) (pc + 3) = .ok (.dup, 1)) (d4 : decode (zby M) (pc + 4) = .ok (.ldc is, 2)) (d6 : decode (zby M) (pc + 6) = .ok (.invokespecial ic, 3)) (d9 : decode (zby M) (pc + 9) = .ok (.athrow, 1)) (hw : (st.map fun v => v.category).sum ≤ 8) (hk : k + 1 ≤ mc) (hks : ks + 6 ≤ ms) (hQ : ∀ n2, n ≤ n2 → Q (.inr cls) h n2) : Z Γ l M d mc ms (zFin Γ Q mc ms) pc ls st h n k ks := fun p e R s m args below meth c lsA H locs B L P S => by
  obtain ⟨hx, hb, hml, hr, hown, hts, hlocks, hin, hxt, htr, hE, hbs, hR1, hR2, hR3, hR4⟩ := id B
  obtain ⟨g1, g2, g3, g4, g5, g7, g8, g9⟩ := hT
  obtain ⟨sa, hsa⟩ := hE.2.2.1 _ g6
  rw [← g5] at hsa
  refine vx_throwS (text := text) (names := ["java/lang/RuntimeException", "java/lang/Exception"]) (ik := ik) (is := is) (ic := ic) (sa := sa) (A := zSp Γ) hx hb htr hown g1 g2 (hts _ g3 rfl) (hts _ g4 rfl) hsa (fun w hw9 => zWd hts hE (g7 w hw9) (g8 w (List.mem_cons_of_mem _ (List.mem_cons_of_mem _ hw9))) (g9 w hw9)) g8 hE.2.2.2.1 hE.2.2.2.2.1 S (by rw [hml]; exact L.1) d0 d3 d4 d6 d9 (fun x hx9 => by rw [hxt, hxt0] at hx9; cases hx9) (by show 2 + 3 < _; omega) (by show _ + (13 * (2 + 1) + 43) ≤ _; omega) (Nat.le_trans hk hR3) (Nat.le_trans hks hR4) hlocks (fun t hal hz oq => ⟨⟨h, _, hQ _ (by rw [← P.1]; exact hz), P.grow oq⟩, ⟨Nat.le_trans S.1 hz, fun q h1 h2 => (oq q (Nat.lt_of_lt_of_le h1 S.1)).trans (S.2.1 q h1 h2)⟩⟩) S.2.2 hk hks
theorem zs_throwW {Γ : zG} {l : Launch} {M : zM} {d mc ms : Nat} {Q : zQ} {pc : Nat} {ls : List (Option Value)} {st : List Value} {h : zH} {n k ks ik is ic : Nat} {cls text : String} (hT : zTh (zy M).cls ik ic cls) (g6 : (is, text) ∈ zTexts) (hxt0 : zxt M = []) (d0 : decode (zby M) pc = .ok (.new ik, 3)) (d3 : decode (zby M) (pc + 3) = .ok (.dup, 1)) (d4 : decode (zby M) (pc + 4) = .ok (.ldc_w is, 3)) (d6 : decode (zby M) (pc + 7) = .ok (.invokespecial ic, 3)) (d9 : decode (zby M) (pc + 10) = .ok (.athrow, 1)) (hw : (st.map fun v => v.category).sum ≤ 8) (hk : k + 1 ≤ mc) (hks : ks + 6 ≤ ms) (hQ : ∀ n2, n ≤ n2 → Q (.inr cls) h n2) : Z Γ l M d mc ms (zFin Γ Q mc ms) pc ls st h n k ks := fun p e R s m args below meth c lsA H locs B L P S => by
  obtain ⟨hx, hb, hml, hr, hown, hts, hlocks, hin, hxt, htr, hE, hbs, hR1, hR2, hR3, hR4⟩ := id B
  obtain ⟨g1, g2, g3, g4, g5, g7, g8, g9⟩ := hT
  obtain ⟨sa, hsa⟩ := hE.2.2.1 _ g6
  rw [← g5] at hsa
  refine vx_throwSW (text := text) (names := ["java/lang/RuntimeException", "java/lang/Exception"]) (ik := ik) (is := is) (ic := ic) (sa := sa) (A := zSp Γ) hx hb htr hown g1 g2 (hts _ g3 rfl) (hts _ g4 rfl) hsa (fun w hw9 => zWd hts hE (g7 w hw9) (g8 w (List.mem_cons_of_mem _ (List.mem_cons_of_mem _ hw9))) (g9 w hw9)) g8 hE.2.2.2.1 hE.2.2.2.2.1 S (by rw [hml]; exact L.1) d0 d3 d4 d6 d9 (fun x hx9 => by rw [hxt, hxt0] at hx9; cases hx9) (by show 2 + 3 < _; omega) (by show _ + (13 * (2 + 1) + 43) ≤ _; omega) (Nat.le_trans hk hR3) (Nat.le_trans hks hR4) hlocks (fun t hal hz oq => ⟨⟨h, _, hQ _ (by rw [← P.1]; exact hz), P.grow oq⟩, ⟨Nat.le_trans S.1 hz, fun q h1 h2 => (oq q (Nat.lt_of_lt_of_le h1 S.1)).trans (S.2.1 q h1 h2)⟩⟩) S.2.2 hk hks
end ZCALL
