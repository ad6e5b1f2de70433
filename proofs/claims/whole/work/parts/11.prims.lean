/-! the JDK's few members that the class uses -/
theorem zw_mmax1 : Cond.static Lib.Math.max.name ∈ lw_tbl := (zt2 (i := 218) rfl)
theorem zw_mmax2 : Cond.code Lib.Math.max.name Lib.Math.max.code 2 (some .int) ∈ lw_tbl := (zt2 (i := 219) rfl)
theorem zw_mmax3 : Cond.initialized "java/lang/Math" ∈ lw_tbl := (zt1 (i := 11) rfl)
theorem zs_mmax {Γ : zG} {l : Launch} {M : zM} {d mc ms : Nat} {FN : List Frame → Array Value → State → State → Prop} {pc : Nat} {ls : List (Option Value)} {st : List Value} {h : zH} {n k ks : Nat} {idx : Nat} {x y : Int32} (hd : decode (zby M) pc = .ok (.invokestatic idx, 3)) (hl : Cond.methodLink (zy M).cls idx Lib.Math.max.name ∈ lw_tbl) (hw : (st.map fun v => v.category).sum ≤ 8) (hk : k ≤ mc) (hks : ks ≤ ms) (K : Z Γ l M d mc ms FN (pc + 3) ls (.int (if x < y then y else x) :: st) h n k ks) : Z Γ l M d mc ms FN pc ls (.int y :: .int x :: st) h n k ks := fun p e R s m args below meth c lsA H locs B L P S => by
  obtain ⟨hx, hb, hml, hr, hown, hts, hlocks, hin, hxt, htr, hE, hbs, hR1, hR2, hR3, hR4⟩ := id B
  exact va_mmax hx hb (by rw [hml]; exact L.1.symm) hown (hts _ hl rfl) (hts _ zw_mmax1 rfl) (hts _ zw_mmax3 rfl) (hts _ zw_mmax2 rfl) (by omega) (by omega) (Nat.le_trans hk hR3) (Nat.le_trans hks hR4) hd (K p e R s m args below meth c lsA H locs B L P S)
theorem zw_mmin1 : Cond.static Lib.Math.min.name ∈ lw_tbl := (zt3 (i := 132) rfl)
theorem zw_mmin2 : Cond.code Lib.Math.min.name Lib.Math.min.code 2 (some .int) ∈ lw_tbl := (zt3 (i := 133) rfl)
theorem zw_mmin3 : Cond.initialized "java/lang/Math" ∈ lw_tbl := (zt1 (i := 11) rfl)
theorem zs_mmin {Γ : zG} {l : Launch} {M : zM} {d mc ms : Nat} {FN : List Frame → Array Value → State → State → Prop} {pc : Nat} {ls : List (Option Value)} {st : List Value} {h : zH} {n k ks : Nat} {idx : Nat} {x y : Int32} (hd : decode (zby M) pc = .ok (.invokestatic idx, 3)) (hl : Cond.methodLink (zy M).cls idx Lib.Math.min.name ∈ lw_tbl) (hw : (st.map fun v => v.category).sum ≤ 8) (hk : k ≤ mc) (hks : ks ≤ ms) (K : Z Γ l M d mc ms FN (pc + 3) ls (.int (if y < x then y else x) :: st) h n k ks) : Z Γ l M d mc ms FN pc ls (.int y :: .int x :: st) h n k ks := fun p e R s m args below meth c lsA H locs B L P S => by
  obtain ⟨hx, hb, hml, hr, hown, hts, hlocks, hin, hxt, htr, hE, hbs, hR1, hR2, hR3, hR4⟩ := id B
  exact va_mmin hx hb (by rw [hml]; exact L.1.symm) hown (hts _ hl rfl) (hts _ zw_mmin1 rfl) (hts _ zw_mmin3 rfl) (hts _ zw_mmin2 rfl) (by omega) (by omega) (Nat.le_trans hk hR3) (Nat.le_trans hks hR4) hd (K p e R s m args below meth c lsA H locs B L P S)
theorem zw_mabs1 : Cond.static Lib.Math.abs.name ∈ lw_tbl := (zt5 (i := 72) rfl)
theorem zw_mabs2 : Cond.code Lib.Math.abs.name Lib.Math.abs.code 1 (some .int) ∈ lw_tbl := (zt5 (i := 73) rfl)
theorem zw_mabs3 : Cond.initialized "java/lang/Math" ∈ lw_tbl := (zt1 (i := 11) rfl)
theorem zs_mabs {Γ : zG} {l : Launch} {M : zM} {d mc ms : Nat} {FN : List Frame → Array Value → State → State → Prop} {pc : Nat} {ls : List (Option Value)} {st : List Value} {h : zH} {n k ks : Nat} {idx : Nat} {x : Int32} (hd : decode (zby M) pc = .ok (.invokestatic idx, 3)) (hl : Cond.methodLink (zy M).cls idx Lib.Math.abs.name ∈ lw_tbl) (hw : (st.map fun v => v.category).sum ≤ 8) (hk : k ≤ mc) (hks : ks ≤ ms) (K : Z Γ l M d mc ms FN (pc + 3) ls (.int (if 0 ≤ x then x else 0 - x) :: st) h n k ks) : Z Γ l M d mc ms FN pc ls (.int x :: st) h n k ks := fun p e R s m args below meth c lsA H locs B L P S => by
  obtain ⟨hx, hb, hml, hr, hown, hts, hlocks, hin, hxt, htr, hE, hbs, hR1, hR2, hR3, hR4⟩ := id B
  exact va_mabs hx hb (by rw [hml]; exact L.1.symm) hown (hts _ hl rfl) (hts _ zw_mabs1 rfl) (hts _ zw_mabs3 rfl) (hts _ zw_mabs2 rfl) (by omega) (by omega) (Nat.le_trans hk hR3) (Nat.le_trans hks hR4) hd (K p e R s m args below meth c lsA H locs B L P S)
theorem zw_ac1 : Cond.native arraycopyName ∈ lw_tbl := (zt3 (i := 30) rfl)
theorem zw_ac2 : Cond.static arraycopyName ∈ lw_tbl := (zt3 (i := 29) rfl)
theorem zw_ac3 : Cond.initialized "java/lang/System" ∈ lw_tbl := (zt1 (i := 10) rfl)
theorem zw_ac4 : nativeFrameWords "java/lang/System" "arraycopy" 5 + 11 ≤ 100 := by decide +kernel
theorem zs_copyi {Γ : zG} {l : Launch} {M : zM} {d mc ms : Nat} {FN : List Frame → Array Value → State → State → Prop} {pc : Nat} {ls : List (Option Value)} {st : List Value} {h : zH} {n k ks : Nat} {idx a0 a n0 n1 : Nat} {f g : Nat → Int32} {sp dp nn : Int32} (hd : decode (zby M) pc = .ok (.invokestatic idx, 3)) (hl : Cond.methodLink (zy M).cls idx arraycopyName ∈ lw_tbl) (hh0 : h a0 = some (.inl (0, n0, .inl f))) (hh1 : h a = some (.inl (0, n1, .inl g))) (h1 : ¬ sp < 0) (h2 : ¬ dp < 0) (h3 : ¬ nn < 0) (h4 : sp.toNatClampNeg + nn.toNatClampNeg ≤ n0) (h5 : dp.toNatClampNeg + nn.toNatClampNeg ≤ n1) (hw : (st.map fun v => v.category).sum ≤ 8) (K : Z Γ l M d mc ms FN (pc + 3) ls st (zu h a (.inl (0, n1, .inl (va_cpy f g sp.toNatClampNeg dp.toNatClampNeg nn.toNatClampNeg)))) n k ks) : Z Γ l M d mc ms FN pc ls (.int nn :: .int dp :: .ref a :: .int sp :: .ref a0 :: st) h n k ks := fun p e R s m args below meth c lsA H locs B L P S => by
  obtain ⟨hx, hb, hml, hr, hown, hts, hlocks, hin, hxt, htr, hE, hbs, hR1, hR2, hR3, hR4⟩ := id B
  obtain ⟨hbase, hcell1⟩ := P.2 a _ hh1
  obtain ⟨-, hcell0⟩ := P.2 a0 _ hh0
  have hc0 : H[a0]? = some (vp_cell (zgA Γ 0) (n0, .inl f)) := hcell0
  have hc1 : H[a]? = some (vp_cell (zgA Γ 0) (n1, .inl g)) := hcell1
  have nn9 : ∀ z : Int32, ¬ z < 0 → z.toInt = (z.toNatClampNeg : Int) := by
    intro z hz
    have hz0 : (0 : Int) ≤ z.toInt := by
      have := Int32.not_lt.mp hz
      simpa using Int32.le_iff_toInt_le.mp this
    show z.toInt = ((z.toInt.toNat : Nat) : Int)
    omega
  have hw4 := zw_ac4
  intro T hT X
  obtain ⟨-, k0, hk0, cm0, hkk0⟩ := (hE.1.2 0 _ rfl).1 n0 (fun j => .int (f j))
  obtain ⟨-, k1, hk1, cm1, hkk1⟩ := (hE.1.2 0 _ rfl).1 n1 (fun j => .int (g j))
  obtain ⟨vm', X', step⟩ := X.arraycopy hx hown (hts _ hl rfl) (hts _ zw_ac1 rfl) (hts _ zw_ac2 rfl) (hts _ zw_ac3 rfl) (src := a0) (dst := a) (cs := vp_cell (zgA Γ 0) (n0, .inl f)) (cd := vp_cell (zgA Γ 0) (n1, .inl g)) (srcPos := sp) (destPos := dp) (n := nn) (by rw [hT]; exact hc0) (by rw [hT]; exact hc1)
    (fun _ h => by cases h) (fun _ h => by cases h) (fun h => by cases h) (fun h => by cases h) hk0 hk1 hkk0 hkk1 (by simp [zTy, refKind]) h1 h2 h3
    (by rw [nn9 sp h1, nn9 nn h3]; show ¬ _ > ((arrV (zgA Γ 0) n0 (fun j => .int (f j))).slots.size : Int); rw [arrV_size]; omega)
    (by rw [nn9 dp h2, nn9 nn h3]; show ¬ _ > ((arrV (zgA Γ 0) n1 (fun j => .int (g j))).slots.size : Int); rw [arrV_size]; omega)
    (fun vm₁ _ i hi => by
      have e : (vp_cell (zgA Γ 0) (n0, .inl f)).slots.getD (sp.toNatClampNeg + i) .null = .int (f (sp.toNatClampNeg + i)) := by
        show (arrV (zgA Γ 0) n0 (fun j => .int (f j))).slots.getD _ _ = _
        rw [Array.getD_eq_getD_getElem?, arrV_read _ _ (by omega)]
        rfl
      refine ⟨?_, ?_⟩
      · rw [e]
        rfl
      · rw [e]
        exact trivial)
    (g := F0 m pc lsA (.int nn :: .int dp :: .ref a :: .int sp :: .ref a0 :: st)) rfl (by rw [hml]; exact L.1) (rest := st) rfl (by rw [hb]; exact hd) (by omega) (by show 2 * 0 + _ + _ ≤ _; omega)
  have e1 : copied (vp_cell (zgA Γ 0) (n0, .inl f)) (vp_cell (zgA Γ 0) (n1, .inl g)) sp dp nn = vp_cell (zgA Γ 0) (n1, .inl (va_cpy f g sp.toNatClampNeg dp.toNatClampNeg nn.toNatClampNeg)) := va_copied (fun z => .int z) (zgA Γ 0) (zgA Γ 0) f g h4
  rw [e1] at X' step
  have hlt : a < H.size := (Array.getElem?_eq_some_iff.mp hc1).1
  have hheap : ((T.setVm vm').setCell a (vp_cell (zgA Γ 0) (n1, .inl (va_cpy f g sp.toNatClampNeg dp.toNatClampNeg nn.toNatClampNeg)))).heap = H.setIfInBounds a (vp_cell (zgA Γ 0) (n1, .inl (va_cpy f g sp.toNatClampNeg dp.toNatClampNeg nn.toNatClampNeg))) := by rw [← hT]; rfl
  have oq : ∀ q : Nat, q ≠ a → (H.setIfInBounds a (vp_cell (zgA Γ 0) (n1, .inl (va_cpy f g sp.toNatClampNeg dp.toNatClampNeg nn.toNatClampNeg))))[q]? = H[q]? := fun q hq => by simp [Array.getElem?_setIfInBounds, Ne.symm hq]
  obtain ⟨t, a1, b1⟩ := K p e R s m args below meth c lsA _ _ B L (P.set hbase (by simp) oq (show (H.setIfInBounds a _)[a]? = some _ by simp [Array.getElem?_setIfInBounds, hlt])) ⟨by simp; exact S.1, fun q g1 g2 => by
      rw [oq q (fun e => g2 (by rw [e]; exact hbase))]
      exact S.2.1 q g1 g2, fun q hq => by
      rcases List.mem_append.mp hq with h | h
      · exact S.2.2 q h
      · obtain ⟨z, -, hz⟩ := List.mem_map.mp h
        rw [← hz]
        exact hbase⟩ _ hheap X'
  exact ⟨t, step t a1, b1⟩
theorem zs_ldcw {Γ : zG} {l : Launch} {M : zM} {d mc ms : Nat} {FN : List Frame → Array Value → State → State → Prop} {pc : Nat} {ls : List (Option Value)} {st : List Value} {h : zH} {n k ks : Nat} (i : Nat) {idx : Nat} (hi : i < 10) (hd : decode (zby M) pc = .ok (.ldc idx, 2)) (ho : (zy M).cls = zWp) (hx9 : zWi i = idx) (K : Z Γ l M d mc ms FN (pc + 2) ls (.ref (zgK Γ i) :: st) h n k ks) : Z Γ l M d mc ms FN pc ls st h n k ks := fun p e R s m args below meth c lsA H locs B L P S => by
  obtain ⟨hx, hb, hml, hr, hown, hts, hlocks, hin, hxt, htr, hE, hbs, hR1, hR2, hR3, hR4⟩ := id B
  subst hx9
  rw [ho] at hown
  exact va_ldcS hx hb hown (hE.2.2.2.2.2.2.1.1 i hi) hd (K p e R s m args below meth c lsA H locs B L P S)
theorem zw_cs : Cond.fieldLink "java/lang/String" 38 "java/lang/String" "COMPACT_STRINGS" "Z" ∈ lw_tbl := (zt5 (i := 153) rfl)
theorem zw_sio : Cond.fieldLink "java/lang/String" 1053 "jdk/internal/util/Preconditions" "SIOOBE_FORMATTER" "Ljava/util/function/BiFunction;" ∈ lw_tbl := (zt5 (i := 169) rfl)
theorem zw_val : Cond.fieldLink "java/lang/String" 9 "java/lang/String" "value" "[B" ∈ lw_tbl := (zt8 (i := 64) rfl)
theorem zw_cod : Cond.fieldLink "java/lang/String" 15 "java/lang/String" "coder" "B" ∈ lw_tbl := (zt8 (i := 65) rfl)
theorem zs_getcs {Γ : zG} {l : Launch} {M : zM} {d mc ms : Nat} {FN : List Frame → Array Value → State → State → Prop} {pc : Nat} {ls : List (Option Value)} {st : List Value} {h : zH} {n k ks : Nat} (hd : decode (zby M) pc = .ok (.getstatic 38, 3)) (ho : (zy M).cls = "java/lang/String") (K : Z Γ l M d mc ms FN (pc + 3) ls (.int 1 :: st) h n k ks) : Z Γ l M d mc ms FN pc ls st h n k ks := fun p e R s m args below meth c lsA H locs B L P S => by
  obtain ⟨hx, hb, hml, hr, hown, hts, hlocks, hin, hxt, htr, hE, hbs, hR1, hR2, hR3, hR4⟩ := id B
  rw [ho] at hown
  exact va_gets hx hb hE.2.2.2.2.2.2.1.2.2.1 S hown (hts _ zw_cs rfl) (fun _ q => q) hd (K p e R s m args below meth c lsA H locs B L P S)
theorem zs_getsio {Γ : zG} {l : Launch} {M : zM} {d mc ms : Nat} {FN : List Frame → Array Value → State → State → Prop} {pc : Nat} {ls : List (Option Value)} {st : List Value} {h : zH} {n k ks : Nat} (hd : decode (zby M) pc = .ok (.getstatic 1053, 3)) (ho : (zy M).cls = "java/lang/String") (K : ∀ v : Value, (v = .null ∨ ∃ t, v = .ref t) → Z Γ l M d mc ms FN (pc + 3) ls (v :: st) h n k ks) : Z Γ l M d mc ms FN pc ls st h n k ks := fun p e R s m args below meth c lsA H locs B L P S => by
  obtain ⟨hx, hb, hml, hr, hown, hts, hlocks, hin, hxt, htr, hE, hbs, hR1, hR2, hR3, hR4⟩ := id B
  rw [ho] at hown
  rcases hE.2.2.2.2.2.2.1.2.2.2 with h9 | ⟨t, h9⟩
  · exact va_gets hx hb h9 S hown (hts _ zw_sio rfl) (fun _ q => q) hd (K _ (Or.inl rfl) p e R s m args below meth c lsA H locs B L P S)
  · exact va_gets hx hb h9 S hown (hts _ zw_sio rfl) (fun _ q => q) hd (K _ (Or.inr ⟨t, rfl⟩) p e R s m args below meth c lsA H locs B L P S)
theorem zs_getcod {Γ : zG} {l : Launch} {M : zM} {d mc ms : Nat} {FN : List Frame → Array Value → State → State → Prop} {pc : Nat} {ls : List (Option Value)} {st : List Value} {h : zH} {n k ks : Nat} {i : Nat} (hi : i < 10) (hd : decode (zby M) pc = .ok (.getfield 15, 3)) (ho : (zy M).cls = "java/lang/String") (K : Z Γ l M d mc ms FN (pc + 3) ls (.int 0 :: st) h n k ks) : Z Γ l M d mc ms FN pc ls (.ref (zgK Γ i) :: st) h n k ks := fun p e R s m args below meth c lsA H locs B L P S => by
  obtain ⟨hx, hb, hml, hr, hown, hts, hlocks, hin, hxt, htr, hE, hbs, hR1, hR2, hR3, hR4⟩ := id B
  rw [ho] at hown
  exact vk_getf hx hb (hE.2.2.2.2.2.2.1.2.1.1 i hi).2.1 S hown (hts _ zw_cod rfl) (fun _ q => q) hd (K p e R s m args below meth c lsA H locs B L P S)
theorem zs_getval {Γ : zG} {l : Launch} {M : zM} {d mc ms : Nat} {FN : List Frame → Array Value → State → State → Prop} {pc : Nat} {ls : List (Option Value)} {st : List Value} {h : zH} {n k ks : Nat} {i : Nat} (hi : i < 10) (hd : decode (zby M) pc = .ok (.getfield 9, 3)) (ho : (zy M).cls = "java/lang/String") (K : Z Γ l M d mc ms FN (pc + 3) ls (.ref (zgV Γ i) :: st) h n k ks) : Z Γ l M d mc ms FN pc ls (.ref (zgK Γ i) :: st) h n k ks := fun p e R s m args below meth c lsA H locs B L P S => by
  obtain ⟨hx, hb, hml, hr, hown, hts, hlocks, hin, hxt, htr, hE, hbs, hR1, hR2, hR3, hR4⟩ := id B
  rw [ho] at hown
  exact vk_getf hx hb (hE.2.2.2.2.2.2.1.2.1.1 i hi).2.2.1 S hown (hts _ zw_val rfl) (fun _ q => q) hd (K p e R s m args below meth c lsA H locs B L P S)
theorem zs_wlen {Γ : zG} {l : Launch} {M : zM} {d mc ms : Nat} {FN : List Frame → Array Value → State → State → Prop} {pc : Nat} {ls : List (Option Value)} {st : List Value} {h : zH} {n k ks : Nat} {i : Nat} (hi : i < 10) (hd : decode (zby M) pc = .ok (.arraylength, 1)) (K : Z Γ l M d mc ms FN (pc + 1) ls (.int (nI (zWl.getD i 0)) :: st) h n k ks) : Z Γ l M d mc ms FN pc ls (.ref (zgV Γ i) :: st) h n k ks := fun p e R s m args below meth c lsA H locs B L P S => by
  obtain ⟨hx, hb, hml, hr, hown, hts, hlocks, hin, hxt, htr, hE, hbs, hR1, hR2, hR3, hR4⟩ := id B
  exact va_tlen hx hb (hE.2.2.2.2.2.2.1.2.1.1 i hi).2.2.2 S rfl hd (K p e R s m args below meth c lsA H locs B L P S)
theorem zs_wbald {Γ : zG} {l : Launch} {M : zM} {d mc ms : Nat} {FN : List Frame → Array Value → State → State → Prop} {pc : Nat} {ls : List (Option Value)} {st : List Value} {h : zH} {n k ks : Nat} {i : Nat} {x : Int32} (hi : i < 10) (hd : decode (zby M) pc = .ok (.baload, 1)) (hin9 : vp_in x (zWl.getD i 0)) (K : Z Γ l M d mc ms FN (pc + 1) ls (.int ((zWb.getD i []).getD x.toNatClampNeg 0) :: st) h n k ks) : Z Γ l M d mc ms FN pc ls (.int x :: .ref (zgV Γ i) :: st) h n k ks := fun p e R s m args below meth c lsA H locs B L P S => by
  obtain ⟨hx, hb, hml, hr, hown, hts, hlocks, hin, hxt, htr, hE, hbs, hR1, hR2, hR3, hR4⟩ := id B
  exact va_tb hx hb (hE.2.2.2.2.2.2.1.2.1.1 i hi).2.2.2 S hin9 rfl hd (K p e R s m args below meth c lsA H locs B L P S)
theorem zs_ishr {Γ : zG} {l : Launch} {M : zM} {d mc ms : Nat} {FN : List Frame → Array Value → State → State → Prop} {pc : Nat} {ls : List (Option Value)} {st : List Value} {h : zH} {n k ks : Nat} {x y : Int32} (hd : decode (zby M) pc = .ok (.ishr, 1)) (K : Z Γ l M d mc ms FN (pc + 1) ls (.int (x >>> (y &&& 31)) :: st) h n k ks) : Z Γ l M d mc ms FN pc ls (.int y :: .int x :: st) h n k ks := fun p e R s m args below meth c lsA H locs B L P S => by
  obtain ⟨hx, hb, hml, hr, hown, hts, hlocks, hin, hxt, htr, hE, hbs, hR1, hR2, hR3, hR4⟩ := id B
  exact lv_ishr hx hb hd (K p e R s m args below meth c lsA H locs B L P S)
theorem zs_callVK {Γ : zG} {l : Launch} {M : zM} {d mc ms : Nat} {FN : List Frame → Array Value → State → State → Prop} {pc : Nat} {ls : List (Option Value)} {st : List Value} {h : zH} {n k ks : Nat} (M2 : zM) {np d2 mc2 ms2 idx i : Nat} {As rest : List Value} (Q2 : zQ) (hi9 : i < 10) (hd : decode (zby M) pc = .ok (.invokevirtual idx, 3)) (hl : Cond.methodLink (zy M).cls idx (zy M2) ∈ lw_tbl) (hm : zMd M2 np) (hi : zMi M2) (hv : zMv M2) (hxt2 : zxt M2 = []) (hc : (zy M2).cls = "java/lang/String") (hn : As.length = np) (hst : st = As.reverse ++ .ref (zgK Γ i) :: rest) (hw : (rest.map fun v => v.category).sum ≤ 8) (hdd : d2 + 1 ≤ d) (hk : k + mc2 ≤ mc) (hks : ks + ms2 ≤ ms) (hC : zC Γ l d2 M2 (.ref (zgK Γ i) :: As) h n mc2 ms2 Q2)
    (kk : ∀ (v : Option Value) (h1 : zH) (n1 : Nat), Q2 (.inl v) h1 n1 → Z Γ l M d mc ms FN (pc + 3) ls (v.toList ++ rest) h1 n1 (k + mc2) (ks + ms2)) (kx : ∀ (E : String) (h1 : zH) (n1 : Nat), Q2 (.inr E) h1 n1 → zX Γ l M d mc ms FN pc ls E h1 n1 (k + mc2) (ks + ms2)) : Z Γ l M d mc ms FN pc ls st h n k ks := fun p e R s m args below meth c lsA H locs B L P S => by
  obtain ⟨hx, hb, hml, hr, hown, hts, hlocks, hin, hxt, htr, hE, hbs, hR1, hR2, hR3, hR4⟩ := id B
  exact zRunK (vx_runV (Ts := zall) (nL := zml M) (As := As) (rest := rest) (n := np) ⟨hx, hb, hml, hown, fun w hw => hts w (List.mem_filter.mp hw).1 (List.mem_filter.mp hw).2⟩ hC ⟨zCallB B hm hxt2 hl hdd, hts _ hi rfl, hts _ hv rfl⟩ ⟨zPre_blind, by rw [hc]; exact vk_recv hE.2.2.2.2.2.2.1.2.1 hi9 S, fun U hU hW => zPre_to hE hbs P S hU hW⟩ rfl hn L.1 hst (lv_room hw) hd ⟨Nat.le_trans hk hR3, Nat.le_trans hks hR4⟩) S
    (fun v h1 n1 H1 locs1 hq P1 S1 => kk v h1 n1 hq p e R s m args below meth c lsA H1 locs1 B L P1 S1) (fun E h1 n1 H1 locs1 ce q9 hq P1 S1 e1 e2 e3 => kx E h1 n1 hq p e R s m args below meth c lsA H1 locs1 B L P1 S1 ce q9 _ e1 e2 e3)
set_option maxRecDepth 20000 in
theorem thIA : zTh "PrefixCodeIndex" 100 104 "java/lang/IllegalArgumentException" := ⟨by decide +kernel, by decide +kernel, (zt2 (i := 75) rfl), (zt1 (i := 16) rfl), rfl, by decide +kernel, by decide +kernel, by decide +kernel⟩
set_option maxRecDepth 20000 in
theorem thIB : zTh "PrefixCodeIndex" 105 109 "java/lang/IndexOutOfBoundsException" := ⟨by decide +kernel, by decide +kernel, (zt3 (i := 161) rfl), (zt1 (i := 17) rfl), rfl, by decide +kernel, by decide +kernel, by decide +kernel⟩
set_option maxRecDepth 20000 in
theorem thIS : zTh "PrefixCodeIndex" 110 114 "java/lang/IllegalStateException" := ⟨by decide +kernel, by decide +kernel, (zt3 (i := 177) rfl), (zt1 (i := 18) rfl), rfl, by decide +kernel, by decide +kernel, by decide +kernel⟩
set_option maxRecDepth 20000 in
theorem thAR : zTh "PrefixCodeIndex" 267 271 "java/lang/ArithmeticException" := ⟨by decide +kernel, by decide +kernel, (zt5 (i := 34) rfl), (zt1 (i := 22) rfl), rfl, by decide +kernel, by decide +kernel, by decide +kernel⟩
/-- exactly this answer, heap and size -/
def zR (v : Option Value) (h1 : zH) (n1 : Nat) : zQ := fun o h2 n2 => o = .inl v ∧ h2 = h1 ∧ n2 = n1
/-- thrown, the heap as it was -/
def zTw (E : String) (h1 : zH) (n1 : Nat) : zQ := fun o h2 n2 => o = .inr E ∧ h2 = h1 ∧ n1 ≤ n2
