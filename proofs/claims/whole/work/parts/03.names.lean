theorem zt0 {i : Nat} {w : Cond} (h : (k2_sels lw_privs)[i]? = some w) : w ∈ lw_tbl := List.mem_append_left _ (List.mem_of_getElem? h)
theorem zt1 {i : Nat} {w : Cond} (h : tables_1_1[i]? = some w) : w ∈ lw_tbl := List.mem_append_right _ (List.mem_append_left _ (List.mem_of_getElem? h))
theorem zt2 {i : Nat} {w : Cond} (h : tables_1_2[i]? = some w) : w ∈ lw_tbl := List.mem_append_right _ (List.mem_append_right _ (List.mem_append_left _ (List.mem_of_getElem? h)))
theorem zt3 {i : Nat} {w : Cond} (h : tables_1_3[i]? = some w) : w ∈ lw_tbl := List.mem_append_right _ (List.mem_append_right _ (List.mem_append_right _ (List.mem_append_left _ (List.mem_of_getElem? h))))
theorem zt4 {i : Nat} {w : Cond} (h : tables_1_4[i]? = some w) : w ∈ lw_tbl := List.mem_append_right _ (List.mem_append_right _ (List.mem_append_right _ (List.mem_append_right _ (List.mem_append_left _ (List.mem_of_getElem? h)))))
theorem zt5 {i : Nat} {w : Cond} (h : tables_1_5[i]? = some w) : w ∈ lw_tbl := List.mem_append_right _ (List.mem_append_right _ (List.mem_append_right _ (List.mem_append_right _ (List.mem_append_right _ (List.mem_append_left _ (List.mem_of_getElem? h))))))
theorem zt6 {i : Nat} {w : Cond} (h : tables_1_6[i]? = some w) : w ∈ lw_tbl := List.mem_append_right _ (List.mem_append_right _ (List.mem_append_right _ (List.mem_append_right _ (List.mem_append_right _ (List.mem_append_right _ (List.mem_append_left _ (List.mem_of_getElem? h)))))))
theorem zt7 {i : Nat} {w : Cond} (h : tables_1_7[i]? = some w) : w ∈ lw_tbl := List.mem_append_right _ (List.mem_append_right _ (List.mem_append_right _ (List.mem_append_right _ (List.mem_append_right _ (List.mem_append_right _ (List.mem_append_right _ (List.mem_append_left _ (List.mem_of_getElem? h))))))))
theorem zt8 {i : Nat} {w : Cond} (h : tables_1_8[i]? = some w) : w ∈ lw_tbl := List.mem_append_right _ (List.mem_append_right _ (List.mem_append_right _ (List.mem_append_right _ (List.mem_append_right _ (List.mem_append_right _ (List.mem_append_right _ (List.mem_append_right _ (List.mem_of_getElem? h))))))))
/-! names of the classes, their fields, the methods; where the tables have their words (by program, out of what TURN printed) -/
def zRC : String := "PrefixCodeIndex$Contents"
def zTC : u_T := fun k => match k with
  | 0 => ("PrefixCodeIndex$Contents", "entries", "[LPrefixCodeIndex$Entry;", true)
  | 1 => ("PrefixCodeIndex$Contents", "entryCount", "I", false)
  | 2 => ("PrefixCodeIndex$Contents", "nextId", "I", false)
  | 3 => ("PrefixCodeIndex$Contents", "segments", "I", false)
  | 4 => ("PrefixCodeIndex$Contents", "added", "I", false)
  | 5 => ("PrefixCodeIndex$Contents", "removed", "I", false)
  | 6 => ("PrefixCodeIndex$Contents", "merged", "I", false)
  | _ => ("PrefixCodeIndex$Contents", "faded", "I", false)
def ztC : Nat → FieldType := fun k => match k with
  | 0 => (.array (.object "PrefixCodeIndex$Entry"))
  | 1 => .int
  | 2 => .int
  | 3 => .int
  | 4 => .int
  | 5 => .int
  | 6 => .int
  | _ => .int
def zRE : String := "PrefixCodeIndex$Entry"
def zTE : u_T := fun k => match k with
  | 0 => ("PrefixCodeIndex$Entry", "id", "I", false)
  | 1 => ("PrefixCodeIndex$Entry", "weight", "I", false)
  | 2 => ("PrefixCodeIndex$Entry", "age", "I", false)
  | 3 => ("PrefixCodeIndex$Entry", "hits", "I", false)
  | 4 => ("PrefixCodeIndex$Entry", "segment", "I", false)
  | 5 => ("PrefixCodeIndex$Entry", "size", "I", false)
  | _ => ("PrefixCodeIndex$Entry", "codes", "[I", true)
def ztE : Nat → FieldType := fun k => match k with
  | 0 => .int
  | 1 => .int
  | 2 => .int
  | 3 => .int
  | 4 => .int
  | 5 => .int
  | _ => (.array .int)
def zRH : String := "PrefixCodeIndex$History"
def zTH : u_T := fun k => match k with
  | 0 => ("PrefixCodeIndex$History", "rows", "[LPrefixCodeIndex$Contents;", true)
  | 1 => ("PrefixCodeIndex$History", "marked", "I", false)
  | _ => ("PrefixCodeIndex$History", "size", "I", false)
def ztH : Nat → FieldType := fun k => match k with
  | 0 => (.array (.object "PrefixCodeIndex$Contents"))
  | 1 => .int
  | _ => .int
def zRL : String := "PrefixCodeIndex$Line"
def zTL : u_T := fun k => match k with
  | 0 => ("PrefixCodeIndex$Line", "chars", "[C", true)
  | 1 => ("PrefixCodeIndex$Line", "digits", "[C", true)
  | _ => ("PrefixCodeIndex$Line", "length", "I", false)
def ztL : Nat → FieldType := fun k => match k with
  | 0 => (.array .char)
  | 1 => (.array .char)
  | _ => .int
def zRP : String := "PrefixCodeIndex$Program"
def zTP : u_T := fun k => match k with
  | 0 => ("PrefixCodeIndex$Program", "text", "[C", true)
  | 1 => ("PrefixCodeIndex$Program", "length", "I", false)
  | 2 => ("PrefixCodeIndex$Program", "position", "I", false)
  | 3 => ("PrefixCodeIndex$Program", "number", "I", false)
  | 4 => ("PrefixCodeIndex$Program", "numberDigits", "I", false)
  | 5 => ("PrefixCodeIndex$Program", "kinds", "[I", true)
  | 6 => ("PrefixCodeIndex$Program", "firsts", "[I", true)
  | 7 => ("PrefixCodeIndex$Program", "seconds", "[I", true)
  | _ => ("PrefixCodeIndex$Program", "count", "I", false)
def ztP : Nat → FieldType := fun k => match k with
  | 0 => (.array .char)
  | 1 => .int
  | 2 => .int
  | 3 => .int
  | 4 => .int
  | 5 => (.array .int)
  | 6 => (.array .int)
  | 7 => (.array .int)
  | _ => .int
def zRR : String := "PrefixCodeIndex$Ranking"
def zTR : u_T := fun k => match k with
  | 0 => ("PrefixCodeIndex$Ranking", "ids", "[I", true)
  | 1 => ("PrefixCodeIndex$Ranking", "scores", "[I", true)
  | _ => ("PrefixCodeIndex$Ranking", "size", "I", false)
def ztR : Nat → FieldType := fun k => match k with
  | 0 => (.array .int)
  | 1 => (.array .int)
  | _ => .int
def zRT : String := "PrefixCodeIndex$Trie"
def zTT : u_T := fun k => match k with
  | 0 => ("PrefixCodeIndex$Trie", "entryCounts", "[I", true)
  | _ => ("PrefixCodeIndex$Trie", "codeCounts", "[I", true)
def ztT : Nat → FieldType := fun k => match k with
  | 0 => (.array .int)
  | _ => (.array .int)
def zRX : String := "PrefixCodeIndex"
def zTX : u_T := fun k => match k with
  | 0 => ("PrefixCodeIndex", "contents", "LPrefixCodeIndex$Contents;", true)
  | 1 => ("PrefixCodeIndex", "saved", "LPrefixCodeIndex$Contents;", true)
  | 2 => ("PrefixCodeIndex", "history", "LPrefixCodeIndex$History;", true)
  | 3 => ("PrefixCodeIndex", "trie", "LPrefixCodeIndex$Trie;", true)
  | 4 => ("PrefixCodeIndex", "ranking", "LPrefixCodeIndex$Ranking;", true)
  | 5 => ("PrefixCodeIndex", "program", "LPrefixCodeIndex$Program;", true)
  | 6 => ("PrefixCodeIndex", "line", "LPrefixCodeIndex$Line;", true)
  | 7 => ("PrefixCodeIndex", "agingCopy", "LPrefixCodeIndex$Entry;", true)
  | 8 => ("PrefixCodeIndex", "trieIsStale", "Z", false)
  | 9 => ("PrefixCodeIndex", "copyIsSaved", "Z", false)
  | 10 => ("PrefixCodeIndex", "storedErrorPosition", "I", false)
  | _ => ("PrefixCodeIndex", "storedFailedCommand", "I", false)
def ztX : Nat → FieldType := fun k => match k with
  | 0 => (.object "PrefixCodeIndex$Contents")
  | 1 => (.object "PrefixCodeIndex$Contents")
  | 2 => (.object "PrefixCodeIndex$History")
  | 3 => (.object "PrefixCodeIndex$Trie")
  | 4 => (.object "PrefixCodeIndex$Ranking")
  | 5 => (.object "PrefixCodeIndex$Program")
  | 6 => (.object "PrefixCodeIndex$Line")
  | 7 => (.object "PrefixCodeIndex$Entry")
  | 8 => .boolean
  | 9 => .boolean
  | 10 => .int
  | _ => .int
def zRM : String := "PrefixCodeIndexModel"
def zTM : u_T := fun k => match k with
  | 0 => ("PrefixCodeIndexModel", "m", "[I", true)
  | 1 => ("PrefixCodeIndexModel", "aside", "[I", true)
  | 2 => ("PrefixCodeIndexModel", "saved", "[I", true)
  | 3 => ("PrefixCodeIndexModel", "isSaved", "Z", false)
  | 4 => ("PrefixCodeIndexModel", "past", "[I", true)
  | 5 => ("PrefixCodeIndexModel", "changes", "I", false)
  | 6 => ("PrefixCodeIndexModel", "errorAt", "I", false)
  | 7 => ("PrefixCodeIndexModel", "failed", "I", false)
  | 8 => ("PrefixCodeIndexModel", "thrown", "I", false)
  | 9 => ("PrefixCodeIndexModel", "input", "[I", true)
  | 10 => ("PrefixCodeIndexModel", "inputMany", "I", false)
  | 11 => ("PrefixCodeIndexModel", "line", "[I", true)
  | 12 => ("PrefixCodeIndexModel", "lineMany", "I", false)
  | 13 => ("PrefixCodeIndexModel", "letters", "[C", true)
  | 14 => ("PrefixCodeIndexModel", "begins0", "[I", true)
  | 15 => ("PrefixCodeIndexModel", "commands", "[I", true)
  | 16 => ("PrefixCodeIndexModel", "commandMany", "I", false)
  | 17 => ("PrefixCodeIndexModel", "place0", "I", false)
  | 18 => ("PrefixCodeIndexModel", "size0", "I", false)
  | 19 => ("PrefixCodeIndexModel", "isWrong", "Z", false)
  | _ => ("PrefixCodeIndexModel", "digitsRead", "I", false)
def ztM : Nat → FieldType := fun k => match k with
  | 0 => (.array .int)
  | 1 => (.array .int)
  | 2 => (.array .int)
  | 3 => .boolean
  | 4 => (.array .int)
  | 5 => .int
  | 6 => .int
  | 7 => .int
  | 8 => .int
  | 9 => (.array .int)
  | 10 => .int
  | 11 => (.array .int)
  | 12 => .int
  | 13 => (.array .char)
  | 14 => (.array .int)
  | 15 => (.array .int)
  | 16 => .int
  | 17 => .int
  | 18 => .int
  | 19 => .boolean
  | _ => .int
def zCl : List vw_C := [(zRC, zTC, 8), (zRE, zTE, 7), (zRH, zTH, 3), (zRL, zTL, 3), (zRP, zTP, 9), (zRR, zTR, 3), (zRT, zTT, 2), (zRX, zTX, 12), (zRM, zTM, 21)]
def zNf : Nat → Nat := fun k => match k with
  | 0 => 8
  | 1 => 7
  | 2 => 3
  | 3 => 3
  | 4 => 9
  | 5 => 3
  | 6 => 2
  | 7 => 12
  | 8 => 21
  | _ => 0
/-- a field by its index in a class's pool: class, slot, final or not, its type -/
def zF (own : String) (idx ci k : Nat) (fin : Bool) (ty : FieldType) : Prop := ∃ (C : String) (T : u_T) (N : Nat), zCl[ci]? = some (C, T, N) ∧ k < N ∧ Cond.fieldLink own idx C (T k).2.1 (T k).2.2.1 ∈ lw_tbl ∧ (T k).1 = C ∧ (T k).2.2.2 = fin ∧ parseFieldDescriptor (T k).2.2.1 = some ty
def zClFine (q : vw_C) (ty : Nat → FieldType) : Prop := (∀ w ∈ u_ws q.1 q.2.1 q.2.2, w ∈ lw_tbl) ∧ (∀ w ∈ u_ws q.1 q.2.1 q.2.2, goodWord w = true) ∧ (∀ k, k < q.2.2 → parseFieldDescriptor (q.2.1 k).2.2.1 = some (ty k)) ∧ (∀ a, a < q.2.2 → ∀ b, b < q.2.2 → a ≠ b → (q.2.1 a).2.1 ≠ (q.2.1 b).2.1)
set_option maxRecDepth 20000 in
theorem zcC_ok : zClFine (zRC, zTC, 8) ztC := ⟨by decide +kernel, by decide +kernel, by decide +kernel, by decide +kernel⟩
set_option maxRecDepth 20000 in
theorem zcE_ok : zClFine (zRE, zTE, 7) ztE := ⟨by decide +kernel, by decide +kernel, by decide +kernel, by decide +kernel⟩
set_option maxRecDepth 20000 in
theorem zcH_ok : zClFine (zRH, zTH, 3) ztH := ⟨by decide +kernel, by decide +kernel, by decide +kernel, by decide +kernel⟩
set_option maxRecDepth 20000 in
theorem zcL_ok : zClFine (zRL, zTL, 3) ztL := ⟨by decide +kernel, by decide +kernel, by decide +kernel, by decide +kernel⟩
set_option maxRecDepth 20000 in
theorem zcP_ok : zClFine (zRP, zTP, 9) ztP := ⟨by decide +kernel, by decide +kernel, by decide +kernel, by decide +kernel⟩
set_option maxRecDepth 20000 in
theorem zcR_ok : zClFine (zRR, zTR, 3) ztR := ⟨by decide +kernel, by decide +kernel, by decide +kernel, by decide +kernel⟩
set_option maxRecDepth 20000 in
theorem zcT_ok : zClFine (zRT, zTT, 2) ztT := ⟨by decide +kernel, by decide +kernel, by decide +kernel, by decide +kernel⟩
set_option maxRecDepth 20000 in
theorem zcX_ok : zClFine (zRX, zTX, 12) ztX := ⟨by decide +kernel, by decide +kernel, by decide +kernel, by decide +kernel⟩
set_option maxRecDepth 20000 in
theorem zcM_ok : zClFine (zRM, zTM, 21) ztM := ⟨by decide +kernel, by decide +kernel, by decide +kernel, by decide +kernel⟩
theorem zClOK : ∀ (ci : Nat) (q : vw_C), zCl[ci]? = some q → ∃ ty, zClFine q ty := by
  intro ci q h
  match ci, h with
  | 0, h => cases h; exact ⟨_, zcC_ok⟩
  | 1, h => cases h; exact ⟨_, zcE_ok⟩
  | 2, h => cases h; exact ⟨_, zcH_ok⟩
  | 3, h => cases h; exact ⟨_, zcL_ok⟩
  | 4, h => cases h; exact ⟨_, zcP_ok⟩
  | 5, h => cases h; exact ⟨_, zcR_ok⟩
  | 6, h => cases h; exact ⟨_, zcT_ok⟩
  | 7, h => cases h; exact ⟨_, zcX_ok⟩
  | 8, h => cases h; exact ⟨_, zcM_ok⟩
  | k + 9, h => simp [zCl] at h
/-! methods: name, bytes, locals, answer, exception table -/
abbrev zM : Type := MethodName × ByteArray × Nat × Option FieldType × List (Nat × Nat × Nat × Nat)
abbrev zy (M : zM) : MethodName := M.1
abbrev zby (M : zM) : ByteArray := M.2.1
abbrev zml (M : zM) : Nat := M.2.2.1
abbrev zrt (M : zM) : Option FieldType := M.2.2.2.1
abbrev zxt (M : zM) : List (Nat × Nat × Nat × Nat) := M.2.2.2.2
def zcw (M : zM) : Cond := match zxt M with
  | [] => .code (zy M) (zby M) (zml M) (zrt M)
  | hh => .codeWith (zy M) (zby M) (zml M) (zrt M) hh
/-- what a call of it needs of the tables; np: how many parameters -/
def zMd (M : zM) (np : Nat) : Prop := zcw M ∈ lw_tbl ∧ Cond.initialized (zy M).cls ∈ lw_tbl ∧ ((zy M).cls ≠ "java/lang/invoke/MethodHandle" ∧ (zy M).cls ≠ "java/lang/invoke/VarHandle" ∧ (parseMethodDescriptor (zy M).desc).map (fun d => d.parameters.length) = some np) ∧ plainName (zy M).cls = true ∧ zml M ≤ 21
def zMi (M : zM) : Prop := Cond.instanceMethod (zy M) ∈ lw_tbl
def zMv (M : zM) : Prop := Cond.selects (zy M).cls (zy M) (zy M) ∈ lw_tbl
def zMs (M : zM) : Prop := Cond.static (zy M) ∈ lw_tbl
def mA_fill : zM := (⟨"java/util/Arrays", "fill", "([II)V"⟩, prog_29_method_103_code, 4, none, [])
theorem mdA_fill : zMd mA_fill 2 := ⟨(zt2 (i := 156) rfl), (zt1 (i := 21) rfl), ⟨by decide +kernel, by decide +kernel, by decide +kernel⟩, by decide +kernel, by decide +kernel⟩
theorem msA_fill : zMs mA_fill := (zt2 (i := 155) rfl)
def mC_copyFrom : zM := (⟨"PrefixCodeIndex$Contents", "copyFrom", "(LPrefixCodeIndex$Contents;)V"⟩, prog_2_method_2_code, 3, none, [])
theorem mdC_copyFrom : zMd mC_copyFrom 1 := ⟨(zt3 (i := 50) rfl), (zt1 (i := 2) rfl), ⟨by decide +kernel, by decide +kernel, by decide +kernel⟩, by decide +kernel, by decide +kernel⟩
theorem miC_copyFrom : zMi mC_copyFrom := (zt3 (i := 48) rfl)
theorem mvC_copyFrom : zMv mC_copyFrom := (zt3 (i := 49) rfl)
def mC_discard : zM := (⟨"PrefixCodeIndex$Contents", "discard", "(LPrefixCodeIndex$Entry;)V"⟩, prog_2_method_16_code, 4, none, [])
theorem mdC_discard : zMd mC_discard 1 := ⟨(zt3 (i := 111) rfl), (zt1 (i := 2) rfl), ⟨by decide +kernel, by decide +kernel, by decide +kernel⟩, by decide +kernel, by decide +kernel⟩
theorem miC_discard : zMi mC_discard := (zt3 (i := 110) rfl)
theorem mvC_discard : zMv mC_discard := (zt0 (i := 13) rfl)
def mC_find : zM := (⟨"PrefixCodeIndex$Contents", "find", "(I)LPrefixCodeIndex$Entry;"⟩, prog_2_method_3_code, 3, (some (.object "PrefixCodeIndex$Entry")), [])
theorem mdC_find : zMd mC_find 1 := ⟨(zt2 (i := 235) rfl), (zt1 (i := 2) rfl), ⟨by decide +kernel, by decide +kernel, by decide +kernel⟩, by decide +kernel, by decide +kernel⟩
theorem miC_find : zMi mC_find := (zt2 (i := 233) rfl)
theorem mvC_find : zMv mC_find := (zt2 (i := 234) rfl)
def mC_freshen : zM := (⟨"PrefixCodeIndex$Contents", "freshen", "(I)I"⟩, prog_2_method_9_code, 4, (some .int), [])
theorem mdC_freshen : zMd mC_freshen 1 := ⟨(zt3 (i := 115) rfl), (zt1 (i := 2) rfl), ⟨by decide +kernel, by decide +kernel, by decide +kernel⟩, by decide +kernel, by decide +kernel⟩
theorem miC_freshen : zMi mC_freshen := (zt3 (i := 114) rfl)
theorem mvC_freshen : zMv mC_freshen := (zt0 (i := 14) rfl)
def mC_hitAll : zM := (⟨"PrefixCodeIndex$Contents", "hitAll", "(II)I"⟩, prog_2_method_13_code, 6, (some .int), [])
theorem mdC_hitAll : zMd mC_hitAll 2 := ⟨(zt3 (i := 145) rfl), (zt1 (i := 2) rfl), ⟨by decide +kernel, by decide +kernel, by decide +kernel⟩, by decide +kernel, by decide +kernel⟩
theorem miC_hitAll : zMi mC_hitAll := (zt3 (i := 144) rfl)
theorem mvC_hitAll : zMv mC_hitAll := (zt0 (i := 18) rfl)
def mC_init : zM := (⟨"PrefixCodeIndex$Contents", "<init>", "()V"⟩, prog_2_method_1_code, 2, none, [])
theorem mdC_init : zMd mC_init 0 := ⟨(zt1 (i := 38) rfl), (zt1 (i := 2) rfl), ⟨by decide +kernel, by decide +kernel, by decide +kernel⟩, by decide +kernel, by decide +kernel⟩
theorem miC_init : zMi mC_init := (zt1 (i := 37) rfl)
def mC_joinWithNext : zM := (⟨"PrefixCodeIndex$Contents", "joinWithNext", "(I)I"⟩, prog_2_method_12_code, 3, (some .int), [])
theorem mdC_joinWithNext : zMd mC_joinWithNext 1 := ⟨(zt3 (i := 141) rfl), (zt1 (i := 2) rfl), ⟨by decide +kernel, by decide +kernel, by decide +kernel⟩, by decide +kernel, by decide +kernel⟩
theorem miC_joinWithNext : zMi mC_joinWithNext := (zt3 (i := 140) rfl)
theorem mvC_joinWithNext : zMv mC_joinWithNext := (zt0 (i := 17) rfl)
def mC_mergeInto : zM := (⟨"PrefixCodeIndex$Contents", "mergeInto", "(II)I"⟩, prog_2_method_10_code, 5, (some .int), [])
theorem mdC_mergeInto : zMd mC_mergeInto 2 := ⟨(zt3 (i := 119) rfl), (zt1 (i := 2) rfl), ⟨by decide +kernel, by decide +kernel, by decide +kernel⟩, by decide +kernel, by decide +kernel⟩
theorem miC_mergeInto : zMi mC_mergeInto := (zt3 (i := 118) rfl)
theorem mvC_mergeInto : zMv mC_mergeInto := (zt0 (i := 15) rfl)
def mC_openSegment : zM := (⟨"PrefixCodeIndex$Contents", "openSegment", "()I"⟩, prog_2_method_11_code, 1, (some .int), [])
theorem mdC_openSegment : zMd mC_openSegment 0 := ⟨(zt3 (i := 137) rfl), (zt1 (i := 2) rfl), ⟨by decide +kernel, by decide +kernel, by decide +kernel⟩, by decide +kernel, by decide +kernel⟩
theorem miC_openSegment : zMi mC_openSegment := (zt3 (i := 136) rfl)
theorem mvC_openSegment : zMv mC_openSegment := (zt0 (i := 16) rfl)
def mC_passDay : zM := (⟨"PrefixCodeIndex$Contents", "passDay", "()I"⟩, prog_2_method_15_code, 4, (some .int), [])
theorem mdC_passDay : zMd mC_passDay 0 := ⟨(zt3 (i := 155) rfl), (zt1 (i := 2) rfl), ⟨by decide +kernel, by decide +kernel, by decide +kernel⟩, by decide +kernel, by decide +kernel⟩
theorem miC_passDay : zMi mC_passDay := (zt3 (i := 154) rfl)
theorem mvC_passDay : zMv mC_passDay := (zt0 (i := 20) rfl)
def mC_passDays : zM := (⟨"PrefixCodeIndex$Contents", "passDays", "(I)I"⟩, prog_2_method_14_code, 4, (some .int), [])
theorem mdC_passDays : zMd mC_passDays 1 := ⟨(zt3 (i := 151) rfl), (zt1 (i := 2) rfl), ⟨by decide +kernel, by decide +kernel, by decide +kernel⟩, by decide +kernel, by decide +kernel⟩
theorem miC_passDays : zMi mC_passDays := (zt3 (i := 150) rfl)
theorem mvC_passDays : zMv mC_passDays := (zt0 (i := 19) rfl)
def mC_perform : zM := (⟨"PrefixCodeIndex$Contents", "perform", "(III)I"⟩, prog_2_method_4_code, 4, (some .int), [])
theorem mdC_perform : zMd mC_perform 3 := ⟨(zt3 (i := 73) rfl), (zt1 (i := 2) rfl), ⟨by decide +kernel, by decide +kernel, by decide +kernel⟩, by decide +kernel, by decide +kernel⟩
theorem miC_perform : zMi mC_perform := (zt3 (i := 71) rfl)
theorem mvC_perform : zMv mC_perform := (zt3 (i := 72) rfl)
def mC_putCode : zM := (⟨"PrefixCodeIndex$Contents", "putCode", "(II)I"⟩, prog_2_method_6_code, 4, (some .int), [])
theorem mdC_putCode : zMd mC_putCode 2 := ⟨(zt3 (i := 85) rfl), (zt1 (i := 2) rfl), ⟨by decide +kernel, by decide +kernel, by decide +kernel⟩, by decide +kernel, by decide +kernel⟩
theorem miC_putCode : zMi mC_putCode := (zt3 (i := 84) rfl)
theorem mvC_putCode : zMv mC_putCode := (zt0 (i := 10) rfl)
def mC_putEntry : zM := (⟨"PrefixCodeIndex$Contents", "putEntry", "(I)I"⟩, prog_2_method_5_code, 3, (some .int), [])
theorem mdC_putEntry : zMd mC_putEntry 1 := ⟨(zt3 (i := 77) rfl), (zt1 (i := 2) rfl), ⟨by decide +kernel, by decide +kernel, by decide +kernel⟩, by decide +kernel, by decide +kernel⟩
theorem miC_putEntry : zMi mC_putEntry := (zt3 (i := 76) rfl)
theorem mvC_putEntry : zMv mC_putEntry := (zt0 (i := 9) rfl)
def mC_takeCode : zM := (⟨"PrefixCodeIndex$Contents", "takeCode", "(II)I"⟩, prog_2_method_7_code, 4, (some .int), [])
theorem mdC_takeCode : zMd mC_takeCode 2 := ⟨(zt3 (i := 99) rfl), (zt1 (i := 2) rfl), ⟨by decide +kernel, by decide +kernel, by decide +kernel⟩, by decide +kernel, by decide +kernel⟩
theorem miC_takeCode : zMi mC_takeCode := (zt3 (i := 98) rfl)
theorem mvC_takeCode : zMv mC_takeCode := (zt0 (i := 11) rfl)
def mC_takeEntry : zM := (⟨"PrefixCodeIndex$Contents", "takeEntry", "(I)I"⟩, prog_2_method_8_code, 3, (some .int), [])
theorem mdC_takeEntry : zMd mC_takeEntry 1 := ⟨(zt3 (i := 107) rfl), (zt1 (i := 2) rfl), ⟨by decide +kernel, by decide +kernel, by decide +kernel⟩, by decide +kernel, by decide +kernel⟩
theorem miC_takeEntry : zMi mC_takeEntry := (zt3 (i := 106) rfl)
theorem mvC_takeEntry : zMv mC_takeEntry := (zt0 (i := 12) rfl)
def mE_absorb : zM := (⟨"PrefixCodeIndex$Entry", "absorb", "(LPrefixCodeIndex$Entry;)V"⟩, prog_3_method_14_code, 3, none, [])
theorem mdE_absorb : zMd mE_absorb 1 := ⟨(zt3 (i := 128) rfl), (zt1 (i := 3) rfl), ⟨by decide +kernel, by decide +kernel, by decide +kernel⟩, by decide +kernel, by decide +kernel⟩
theorem miE_absorb : zMi mE_absorb := (zt3 (i := 126) rfl)
theorem mvE_absorb : zMv mE_absorb := (zt3 (i := 127) rfl)
def mE_begin : zM := (⟨"PrefixCodeIndex$Entry", "begin", "(III)V"⟩, prog_3_method_2_code, 4, none, [])
theorem mdE_begin : zMd mE_begin 3 := ⟨(zt3 (i := 81) rfl), (zt1 (i := 3) rfl), ⟨by decide +kernel, by decide +kernel, by decide +kernel⟩, by decide +kernel, by decide +kernel⟩
theorem miE_begin : zMi mE_begin := (zt3 (i := 79) rfl)
theorem mvE_begin : zMv mE_begin := (zt3 (i := 80) rfl)
def mE_copyFrom : zM := (⟨"PrefixCodeIndex$Entry", "copyFrom", "(LPrefixCodeIndex$Entry;)V"⟩, prog_3_method_3_code, 2, none, [])
theorem mdE_copyFrom : zMd mE_copyFrom 1 := ⟨(zt3 (i := 27) rfl), (zt1 (i := 3) rfl), ⟨by decide +kernel, by decide +kernel, by decide +kernel⟩, by decide +kernel, by decide +kernel⟩
theorem miE_copyFrom : zMi mE_copyFrom := (zt3 (i := 25) rfl)
theorem mvE_copyFrom : zMv mE_copyFrom := (zt3 (i := 26) rfl)
def mE_countShared : zM := (⟨"PrefixCodeIndex$Entry", "countShared", "(LPrefixCodeIndex$Entry;)I"⟩, prog_3_method_11_code, 4, (some .int), [])
theorem mdE_countShared : zMd mE_countShared 1 := ⟨(zt3 (i := 123) rfl), (zt1 (i := 3) rfl), ⟨by decide +kernel, by decide +kernel, by decide +kernel⟩, by decide +kernel, by decide +kernel⟩
theorem miE_countShared : zMi mE_countShared := (zt3 (i := 121) rfl)
theorem mvE_countShared : zMv mE_countShared := (zt3 (i := 122) rfl)
def mE_countWith : zM := (⟨"PrefixCodeIndex$Entry", "countWith", "(II)I"⟩, prog_3_method_8_code, 5, (some .int), [])
theorem mdE_countWith : zMd mE_countWith 2 := ⟨(zt2 (i := 185) rfl), (zt1 (i := 3) rfl), ⟨by decide +kernel, by decide +kernel, by decide +kernel⟩, by decide +kernel, by decide +kernel⟩
theorem miE_countWith : zMi mE_countWith := (zt2 (i := 183) rfl)
theorem mvE_countWith : zMv mE_countWith := (zt2 (i := 184) rfl)
def mE_daysLeft : zM := (⟨"PrefixCodeIndex$Entry", "daysLeft", "()I"⟩, prog_3_method_6_code, 1, (some .int), [])
theorem mdE_daysLeft : zMd mE_daysLeft 0 := ⟨(zt3 (i := 15) rfl), (zt1 (i := 3) rfl), ⟨by decide +kernel, by decide +kernel, by decide +kernel⟩, by decide +kernel, by decide +kernel⟩
theorem miE_daysLeft : zMi mE_daysLeft := (zt3 (i := 13) rfl)
theorem mvE_daysLeft : zMv mE_daysLeft := (zt3 (i := 14) rfl)
def mE_delete : zM := (⟨"PrefixCodeIndex$Entry", "delete", "(I)V"⟩, prog_3_method_13_code, 4, none, [])
theorem mdE_delete : zMd mE_delete 1 := ⟨(zt3 (i := 103) rfl), (zt1 (i := 3) rfl), ⟨by decide +kernel, by decide +kernel, by decide +kernel⟩, by decide +kernel, by decide +kernel⟩
theorem miE_delete : zMi mE_delete := (zt3 (i := 101) rfl)
theorem mvE_delete : zMv mE_delete := (zt3 (i := 102) rfl)
def mE_hasFaded : zM := (⟨"PrefixCodeIndex$Entry", "hasFaded", "()Z"⟩, prog_3_method_5_code, 1, (some .boolean), [])
theorem mdE_hasFaded : zMd mE_hasFaded 0 := ⟨(zt3 (i := 34) rfl), (zt1 (i := 3) rfl), ⟨by decide +kernel, by decide +kernel, by decide +kernel⟩, by decide +kernel, by decide +kernel⟩
theorem miE_hasFaded : zMi mE_hasFaded := (zt3 (i := 32) rfl)
theorem mvE_hasFaded : zMv mE_hasFaded := (zt3 (i := 33) rfl)
def mE_holds : zM := (⟨"PrefixCodeIndex$Entry", "holds", "(I)Z"⟩, prog_3_method_9_code, 3, (some .boolean), [])
theorem mdE_holds : zMd mE_holds 1 := ⟨(zt3 (i := 91) rfl), (zt1 (i := 3) rfl), ⟨by decide +kernel, by decide +kernel, by decide +kernel⟩, by decide +kernel, by decide +kernel⟩
theorem miE_holds : zMi mE_holds := (zt3 (i := 89) rfl)
theorem mvE_holds : zMv mE_holds := (zt3 (i := 90) rfl)
def mE_init : zM := (⟨"PrefixCodeIndex$Entry", "<init>", "()V"⟩, prog_3_method_1_code, 1, none, [])
theorem mdE_init : zMd mE_init 0 := ⟨(zt1 (i := 45) rfl), (zt1 (i := 3) rfl), ⟨by decide +kernel, by decide +kernel, by decide +kernel⟩, by decide +kernel, by decide +kernel⟩
theorem miE_init : zMi mE_init := (zt1 (i := 44) rfl)
def mE_insert : zM := (⟨"PrefixCodeIndex$Entry", "insert", "(I)V"⟩, prog_3_method_12_code, 3, none, [])
theorem mdE_insert : zMd mE_insert 1 := ⟨(zt3 (i := 95) rfl), (zt1 (i := 3) rfl), ⟨by decide +kernel, by decide +kernel, by decide +kernel⟩, by decide +kernel, by decide +kernel⟩
theorem miE_insert : zMi mE_insert := (zt3 (i := 93) rfl)
theorem mvE_insert : zMv mE_insert := (zt3 (i := 94) rfl)
def mE_lifetime : zM := (⟨"PrefixCodeIndex$Entry", "lifetime", "()I"⟩, prog_3_method_4_code, 2, (some .int), [])
theorem mdE_lifetime : zMd mE_lifetime 0 := ⟨(zt3 (i := 19) rfl), (zt1 (i := 3) rfl), ⟨by decide +kernel, by decide +kernel, by decide +kernel⟩, by decide +kernel, by decide +kernel⟩
theorem miE_lifetime : zMi mE_lifetime := (zt3 (i := 17) rfl)
theorem mvE_lifetime : zMv mE_lifetime := (zt3 (i := 18) rfl)
def mE_lowestAbove : zM := (⟨"PrefixCodeIndex$Entry", "lowestAbove", "(I)I"⟩, prog_3_method_10_code, 3, (some .int), [])
theorem mdE_lowestAbove : zMd mE_lowestAbove 1 := ⟨(zt4 (i := 206) rfl), (zt1 (i := 3) rfl), ⟨by decide +kernel, by decide +kernel, by decide +kernel⟩, by decide +kernel, by decide +kernel⟩
theorem miE_lowestAbove : zMi mE_lowestAbove := (zt4 (i := 204) rfl)
theorem mvE_lowestAbove : zMv mE_lowestAbove := (zt4 (i := 205) rfl)
def mE_score : zM := (⟨"PrefixCodeIndex$Entry", "score", "(II)I"⟩, prog_3_method_7_code, 3, (some .int), [])
theorem mdE_score : zMd mE_score 2 := ⟨(zt4 (i := 146) rfl), (zt1 (i := 3) rfl), ⟨by decide +kernel, by decide +kernel, by decide +kernel⟩, by decide +kernel, by decide +kernel⟩
theorem miE_score : zMi mE_score := (zt4 (i := 144) rfl)
theorem mvE_score : zMv mE_score := (zt4 (i := 145) rfl)
def mH_forget : zM := (⟨"PrefixCodeIndex$History", "forget", "()V"⟩, prog_4_method_6_code, 1, none, [])
theorem mdH_forget : zMd mH_forget 0 := ⟨(zt6 (i := 35) rfl), (zt1 (i := 4) rfl), ⟨by decide +kernel, by decide +kernel, by decide +kernel⟩, by decide +kernel, by decide +kernel⟩
theorem miH_forget : zMi mH_forget := (zt6 (i := 33) rfl)
theorem mvH_forget : zMv mH_forget := (zt6 (i := 34) rfl)
def mH_init : zM := (⟨"PrefixCodeIndex$History", "<init>", "()V"⟩, prog_4_method_1_code, 2, none, [])
theorem mdH_init : zMd mH_init 0 := ⟨(zt1 (i := 125) rfl), (zt1 (i := 4) rfl), ⟨by decide +kernel, by decide +kernel, by decide +kernel⟩, by decide +kernel, by decide +kernel⟩
theorem miH_init : zMi mH_init := (zt1 (i := 124) rfl)
def mH_keepMark : zM := (⟨"PrefixCodeIndex$History", "keepMark", "()V"⟩, prog_4_method_4_code, 1, none, [])
theorem mdH_keepMark : zMd mH_keepMark 0 := ⟨(zt3 (i := 196) rfl), (zt1 (i := 4) rfl), ⟨by decide +kernel, by decide +kernel, by decide +kernel⟩, by decide +kernel, by decide +kernel⟩
theorem miH_keepMark : zMi mH_keepMark := (zt3 (i := 194) rfl)
theorem mvH_keepMark : zMv mH_keepMark := (zt3 (i := 195) rfl)
def mH_mark : zM := (⟨"PrefixCodeIndex$History", "mark", "(LPrefixCodeIndex$Contents;)V"⟩, prog_4_method_2_code, 2, none, [])
theorem mdH_mark : zMd mH_mark 1 := ⟨(zt3 (i := 68) rfl), (zt1 (i := 4) rfl), ⟨by decide +kernel, by decide +kernel, by decide +kernel⟩, by decide +kernel, by decide +kernel⟩
theorem miH_mark : zMi mH_mark := (zt3 (i := 66) rfl)
theorem mvH_mark : zMv mH_mark := (zt3 (i := 67) rfl)
def mH_returnToMark : zM := (⟨"PrefixCodeIndex$History", "returnToMark", "(LPrefixCodeIndex$Contents;)V"⟩, prog_4_method_3_code, 2, none, [])
theorem mdH_returnToMark : zMd mH_returnToMark 1 := ⟨(zt5 (i := 234) rfl), (zt1 (i := 4) rfl), ⟨by decide +kernel, by decide +kernel, by decide +kernel⟩, by decide +kernel, by decide +kernel⟩
theorem miH_returnToMark : zMi mH_returnToMark := (zt5 (i := 232) rfl)
theorem mvH_returnToMark : zMv mH_returnToMark := (zt5 (i := 233) rfl)
def mH_takeBack : zM := (⟨"PrefixCodeIndex$History", "takeBack", "(LPrefixCodeIndex$Contents;)V"⟩, prog_4_method_5_code, 2, none, [])
theorem mdH_takeBack : zMd mH_takeBack 1 := ⟨(zt6 (i := 23) rfl), (zt1 (i := 4) rfl), ⟨by decide +kernel, by decide +kernel, by decide +kernel⟩, by decide +kernel, by decide +kernel⟩
theorem miH_takeBack : zMi mH_takeBack := (zt6 (i := 21) rfl)
theorem mvH_takeBack : zMv mH_takeBack := (zt6 (i := 22) rfl)
def mK_checkIndex : zM := (⟨"jdk/internal/util/Preconditions", "checkIndex", "(IILjava/util/function/BiFunction;)I"⟩, prog_31_method_11_code, 3, (some .int), [])
theorem mdK_checkIndex : zMd mK_checkIndex 3 := ⟨(zt5 (i := 173) rfl), (zt1 (i := 24) rfl), ⟨by decide +kernel, by decide +kernel, by decide +kernel⟩, by decide +kernel, by decide +kernel⟩
theorem msK_checkIndex : zMs mK_checkIndex := (zt5 (i := 172) rfl)
def mL_clear : zM := (⟨"PrefixCodeIndex$Line", "clear", "()V"⟩, prog_5_method_2_code, 1, none, [])
theorem mdL_clear : zMd mL_clear 0 := ⟨(zt5 (i := 55) rfl), (zt1 (i := 8) rfl), ⟨by decide +kernel, by decide +kernel, by decide +kernel⟩, by decide +kernel, by decide +kernel⟩
theorem miL_clear : zMi mL_clear := (zt5 (i := 53) rfl)
theorem mvL_clear : zMv mL_clear := (zt5 (i := 54) rfl)
def mL_digitOf : zM := (⟨"PrefixCodeIndex$Line", "digitOf", "(I)C"⟩, prog_5_method_7_code, 1, (some .char), [])
theorem mdL_digitOf : zMd mL_digitOf 1 := ⟨(zt5 (i := 70) rfl), (zt1 (i := 8) rfl), ⟨by decide +kernel, by decide +kernel, by decide +kernel⟩, by decide +kernel, by decide +kernel⟩
theorem msL_digitOf : zMs mL_digitOf := (zt5 (i := 69) rfl)
def mL_init : zM := (⟨"PrefixCodeIndex$Line", "<init>", "()V"⟩, prog_5_method_1_code, 1, none, [])
theorem mdL_init : zMd mL_init 0 := ⟨(zt1 (i := 217) rfl), (zt1 (i := 8) rfl), ⟨by decide +kernel, by decide +kernel, by decide +kernel⟩, by decide +kernel, by decide +kernel⟩
theorem miL_init : zMi mL_init := (zt1 (i := 216) rfl)
def mL_put : zM := (⟨"PrefixCodeIndex$Line", "put", "(C)V"⟩, prog_5_method_3_code, 2, none, [])
theorem mdL_put : zMd mL_put 1 := ⟨(zt5 (i := 63) rfl), (zt1 (i := 8) rfl), ⟨by decide +kernel, by decide +kernel, by decide +kernel⟩, by decide +kernel, by decide +kernel⟩
theorem miL_put : zMi mL_put := (zt5 (i := 61) rfl)
theorem mvL_put : zMv mL_put := (zt5 (i := 62) rfl)
def mL_putCode : zM := (⟨"PrefixCodeIndex$Line", "putCode", "(I)V"⟩, prog_5_method_6_code, 3, none, [])
theorem mdL_putCode : zMd mL_putCode 1 := ⟨(zt5 (i := 78) rfl), (zt1 (i := 8) rfl), ⟨by decide +kernel, by decide +kernel, by decide +kernel⟩, by decide +kernel, by decide +kernel⟩
theorem miL_putCode : zMi mL_putCode := (zt5 (i := 76) rfl)
theorem mvL_putCode : zMv mL_putCode := (zt5 (i := 77) rfl)
def mL_putField : zM := (⟨"PrefixCodeIndex$Line", "putField", "(CI)V"⟩, prog_5_method_4_code, 3, none, [])
theorem mdL_putField : zMd mL_putField 2 := ⟨(zt5 (i := 59) rfl), (zt1 (i := 8) rfl), ⟨by decide +kernel, by decide +kernel, by decide +kernel⟩, by decide +kernel, by decide +kernel⟩
theorem miL_putField : zMi mL_putField := (zt5 (i := 57) rfl)
theorem mvL_putField : zMv mL_putField := (zt5 (i := 58) rfl)
def mL_putNumber : zM := (⟨"PrefixCodeIndex$Line", "putNumber", "(I)V"⟩, prog_5_method_5_code, 5, none, [])
theorem mdL_putNumber : zMd mL_putNumber 1 := ⟨(zt5 (i := 67) rfl), (zt1 (i := 8) rfl), ⟨by decide +kernel, by decide +kernel, by decide +kernel⟩, by decide +kernel, by decide +kernel⟩
theorem miL_putNumber : zMi mL_putNumber := (zt5 (i := 65) rfl)
theorem mvL_putNumber : zMv mL_putNumber := (zt5 (i := 66) rfl)
def mM_addCode : zM := (⟨"PrefixCodeIndexModel", "addCode", "(II)I"⟩, prog_10_method_25_code, 3, (some .int), [])
theorem mdM_addCode : zMd mM_addCode 2 := ⟨(zt6 (i := 140) rfl), (zt1 (i := 9) rfl), ⟨by decide +kernel, by decide +kernel, by decide +kernel⟩, by decide +kernel, by decide +kernel⟩
theorem miM_addCode : zMi mM_addCode := (zt6 (i := 138) rfl)
theorem mvM_addCode : zMv mM_addCode := (zt6 (i := 139) rfl)
def mM_addEntry : zM := (⟨"PrefixCodeIndexModel", "addEntry", "(I)I"⟩, prog_10_method_23_code, 2, (some .int), [])
theorem mdM_addEntry : zMd mM_addEntry 1 := ⟨(zt6 (i := 113) rfl), (zt1 (i := 9) rfl), ⟨by decide +kernel, by decide +kernel, by decide +kernel⟩, by decide +kernel, by decide +kernel⟩
theorem miM_addEntry : zMi mM_addEntry := (zt6 (i := 111) rfl)
theorem mvM_addEntry : zMv mM_addEntry := (zt6 (i := 112) rfl)
def mM_addedTotal : zM := (⟨"PrefixCodeIndexModel", "addedTotal", "()I"⟩, prog_10_method_74_code, 1, (some .int), [])
theorem mdM_addedTotal : zMd mM_addedTotal 0 := ⟨(zt7 (i := 161) rfl), (zt1 (i := 9) rfl), ⟨by decide +kernel, by decide +kernel, by decide +kernel⟩, by decide +kernel, by decide +kernel⟩
theorem miM_addedTotal : zMi mM_addedTotal := (zt7 (i := 159) rfl)
theorem mvM_addedTotal : zMv mM_addedTotal := (zt7 (i := 160) rfl)
def mM_ageOf : zM := (⟨"PrefixCodeIndexModel", "ageOf", "(I)I"⟩, prog_10_method_48_code, 2, (some .int), [])
theorem mdM_ageOf : zMd mM_ageOf 1 := ⟨(zt7 (i := 33) rfl), (zt1 (i := 9) rfl), ⟨by decide +kernel, by decide +kernel, by decide +kernel⟩, by decide +kernel, by decide +kernel⟩
theorem miM_ageOf : zMi mM_ageOf := (zt7 (i := 31) rfl)
theorem mvM_ageOf : zMv mM_ageOf := (zt7 (i := 32) rfl)
def mM_append : zM := (⟨"PrefixCodeIndexModel", "append", "(C)I"⟩, prog_10_method_87_code, 2, (some .int), [])
theorem mdM_append : zMd mM_append 1 := ⟨(zt7 (i := 214) rfl), (zt1 (i := 9) rfl), ⟨by decide +kernel, by decide +kernel, by decide +kernel⟩, by decide +kernel, by decide +kernel⟩
theorem miM_append : zMi mM_append := (zt7 (i := 212) rfl)
theorem mvM_append : zMv mM_append := (zt7 (i := 213) rfl)
def mM_changed : zM := (⟨"PrefixCodeIndexModel", "changed", "(I)I"⟩, prog_10_method_6_code, 3, (some .int), [])
theorem mdM_changed : zMd mM_changed 1 := ⟨(zt6 (i := 136) rfl), (zt1 (i := 9) rfl), ⟨by decide +kernel, by decide +kernel, by decide +kernel⟩, by decide +kernel, by decide +kernel⟩
theorem miM_changed : zMi mM_changed := (zt6 (i := 135) rfl)
theorem mvM_changed : zMv mM_changed := (zt0 (i := 36) rfl)
def mM_codeAfter : zM := (⟨"PrefixCodeIndexModel", "codeAfter", "(I)I"⟩, prog_10_method_67_code, 3, (some .int), [])
theorem mdM_codeAfter : zMd mM_codeAfter 1 := ⟨(zt7 (i := 127) rfl), (zt1 (i := 9) rfl), ⟨by decide +kernel, by decide +kernel, by decide +kernel⟩, by decide +kernel, by decide +kernel⟩
theorem miM_codeAfter : zMi mM_codeAfter := (zt7 (i := 125) rfl)
theorem mvM_codeAfter : zMv mM_codeAfter := (zt7 (i := 126) rfl)
def mM_codeAt : zM := (⟨"PrefixCodeIndexModel", "codeAt", "(II)I"⟩, prog_10_method_53_code, 4, (some .int), [])
theorem mdM_codeAt : zMd mM_codeAt 2 := ⟨(zt7 (i := 53) rfl), (zt1 (i := 9) rfl), ⟨by decide +kernel, by decide +kernel, by decide +kernel⟩, by decide +kernel, by decide +kernel⟩
theorem miM_codeAt : zMi mM_codeAt := (zt7 (i := 51) rfl)
theorem mvM_codeAt : zMv mM_codeAt := (zt7 (i := 52) rfl)
def mM_codeCount : zM := (⟨"PrefixCodeIndexModel", "codeCount", "(I)I"⟩, prog_10_method_52_code, 2, (some .int), [])
theorem mdM_codeCount : zMd mM_codeCount 1 := ⟨(zt7 (i := 49) rfl), (zt1 (i := 9) rfl), ⟨by decide +kernel, by decide +kernel, by decide +kernel⟩, by decide +kernel, by decide +kernel⟩
theorem miM_codeCount : zMi mM_codeCount := (zt7 (i := 47) rfl)
theorem mvM_codeCount : zMv mM_codeCount := (zt7 (i := 48) rfl)
def mM_codeIt : zM := (⟨"PrefixCodeIndexModel", "codeIt", "(II)I"⟩, prog_10_method_24_code, 4, (some .int), [])
theorem mdM_codeIt : zMd mM_codeIt 2 := ⟨(zt6 (i := 144) rfl), (zt1 (i := 9) rfl), ⟨by decide +kernel, by decide +kernel, by decide +kernel⟩, by decide +kernel, by decide +kernel⟩
theorem miM_codeIt : zMi mM_codeIt := (zt6 (i := 143) rfl)
theorem mvM_codeIt : zMv mM_codeIt := (zt0 (i := 37) rfl)
def mM_codeOf : zM := (⟨"PrefixCodeIndexModel", "codeOf", "(II)I"⟩, prog_10_method_12_code, 3, (some .int), [])
theorem mdM_codeOf : zMd mM_codeOf 2 := ⟨(zt6 (i := 157) rfl), (zt1 (i := 9) rfl), ⟨by decide +kernel, by decide +kernel, by decide +kernel⟩, by decide +kernel, by decide +kernel⟩
theorem miM_codeOf : zMi mM_codeOf := (zt6 (i := 156) rfl)
theorem mvM_codeOf : zMv mM_codeOf := (zt0 (i := 40) rfl)
def mM_codesWith : zM := (⟨"PrefixCodeIndexModel", "codesWith", "(II)I"⟩, prog_10_method_62_code, 5, (some .int), [])
theorem mdM_codesWith : zMd mM_codesWith 2 := ⟨(zt7 (i := 102) rfl), (zt1 (i := 9) rfl), ⟨by decide +kernel, by decide +kernel, by decide +kernel⟩, by decide +kernel, by decide +kernel⟩
theorem miM_codesWith : zMi mM_codesWith := (zt7 (i := 100) rfl)
theorem mvM_codesWith : zMv mM_codesWith := (zt7 (i := 101) rfl)
def mM_common : zM := (⟨"PrefixCodeIndexModel", "common", "(II)I"⟩, prog_10_method_32_code, 5, (some .int), [])
theorem mdM_common : zMd mM_common 2 := ⟨(zt6 (i := 207) rfl), (zt1 (i := 9) rfl), ⟨by decide +kernel, by decide +kernel, by decide +kernel⟩, by decide +kernel, by decide +kernel⟩
theorem miM_common : zMi mM_common := (zt6 (i := 206) rfl)
theorem mvM_common : zMv mM_common := (zt0 (i := 47) rfl)
def mM_commonestCode : zM := (⟨"PrefixCodeIndexModel", "commonestCode", "()I"⟩, prog_10_method_68_code, 5, (some .int), [])
theorem mdM_commonestCode : zMd mM_commonestCode 0 := ⟨(zt7 (i := 132) rfl), (zt1 (i := 9) rfl), ⟨by decide +kernel, by decide +kernel, by decide +kernel⟩, by decide +kernel, by decide +kernel⟩
theorem miM_commonestCode : zMi mM_commonestCode := (zt7 (i := 130) rfl)
theorem mvM_commonestCode : zMv mM_commonestCode := (zt7 (i := 131) rfl)
def mM_daysLeft : zM := (⟨"PrefixCodeIndexModel", "daysLeft", "(I)I"⟩, prog_10_method_19_code, 2, (some .int), [])
theorem mdM_daysLeft : zMd mM_daysLeft 1 := ⟨(zt7 (i := 148) rfl), (zt1 (i := 9) rfl), ⟨by decide +kernel, by decide +kernel, by decide +kernel⟩, by decide +kernel, by decide +kernel⟩
theorem miM_daysLeft : zMi mM_daysLeft := (zt7 (i := 147) rfl)
theorem mvM_daysLeft : zMv mM_daysLeft := (zt0 (i := 59) rfl)
def mM_daysUntilFaded : zM := (⟨"PrefixCodeIndexModel", "daysUntilFaded", "(I)I"⟩, prog_10_method_71_code, 2, (some .int), [])
theorem mdM_daysUntilFaded : zMd mM_daysUntilFaded 1 := ⟨(zt7 (i := 144) rfl), (zt1 (i := 9) rfl), ⟨by decide +kernel, by decide +kernel, by decide +kernel⟩, by decide +kernel, by decide +kernel⟩
theorem miM_daysUntilFaded : zMi mM_daysUntilFaded := (zt7 (i := 142) rfl)
theorem mvM_daysUntilFaded : zMv mM_daysUntilFaded := (zt7 (i := 143) rfl)
def mM_daysUntilFadedByDays : zM := (⟨"PrefixCodeIndexModel", "daysUntilFadedByDays", "(I)I"⟩, prog_10_method_72_code, 2, (some .int), [])
theorem mdM_daysUntilFadedByDays : zMd mM_daysUntilFadedByDays 1 := ⟨(zt7 (i := 152) rfl), (zt1 (i := 9) rfl), ⟨by decide +kernel, by decide +kernel, by decide +kernel⟩, by decide +kernel, by decide +kernel⟩
theorem miM_daysUntilFadedByDays : zMi mM_daysUntilFadedByDays := (zt7 (i := 150) rfl)
theorem mvM_daysUntilFadedByDays : zMv mM_daysUntilFadedByDays := (zt7 (i := 151) rfl)
def mM_digit : zM := (⟨"PrefixCodeIndexModel", "digit", "()I"⟩, prog_10_method_90_code, 2, (some .int), [])
theorem mdM_digit : zMd mM_digit 0 := ⟨(zt7 (i := 236) rfl), (zt1 (i := 9) rfl), ⟨by decide +kernel, by decide +kernel, by decide +kernel⟩, by decide +kernel, by decide +kernel⟩
theorem miM_digit : zMi mM_digit := (zt7 (i := 235) rfl)
theorem mvM_digit : zMv mM_digit := (zt0 (i := 66) rfl)
def mM_does : zM := (⟨"PrefixCodeIndexModel", "does", "(I)V"⟩, prog_10_method_96_code, 4, none, [])
theorem mdM_does : zMd mM_does 1 := ⟨(zt8 (i := 18) rfl), (zt1 (i := 9) rfl), ⟨by decide +kernel, by decide +kernel, by decide +kernel⟩, by decide +kernel, by decide +kernel⟩
theorem miM_does : zMi mM_does := (zt8 (i := 17) rfl)
theorem mvM_does : zMv mM_does := (zt0 (i := 71) rfl)
def mM_dropIt : zM := (⟨"PrefixCodeIndexModel", "dropIt", "(I)I"⟩, prog_10_method_28_code, 3, (some .int), [])
theorem mdM_dropIt : zMd mM_dropIt 1 := ⟨(zt6 (i := 183) rfl), (zt1 (i := 9) rfl), ⟨by decide +kernel, by decide +kernel, by decide +kernel⟩, by decide +kernel, by decide +kernel⟩
theorem miM_dropIt : zMi mM_dropIt := (zt6 (i := 182) rfl)
theorem mvM_dropIt : zMv mM_dropIt := (zt0 (i := 43) rfl)
def mM_entriesIn : zM := (⟨"PrefixCodeIndexModel", "entriesIn", "(I)I"⟩, prog_10_method_57_code, 4, (some .int), [])
theorem mdM_entriesIn : zMd mM_entriesIn 1 := ⟨(zt7 (i := 69) rfl), (zt1 (i := 9) rfl), ⟨by decide +kernel, by decide +kernel, by decide +kernel⟩, by decide +kernel, by decide +kernel⟩
theorem miM_entriesIn : zMi mM_entriesIn := (zt7 (i := 67) rfl)
theorem mvM_entriesIn : zMv mM_entriesIn := (zt7 (i := 68) rfl)
def mM_entriesWith : zM := (⟨"PrefixCodeIndexModel", "entriesWith", "(I)I"⟩, prog_10_method_66_code, 2, (some .int), [])
theorem mdM_entriesWith : zMd mM_entriesWith 1 := ⟨(zt7 (i := 123) rfl), (zt1 (i := 9) rfl), ⟨by decide +kernel, by decide +kernel, by decide +kernel⟩, by decide +kernel, by decide +kernel⟩
theorem miM_entriesWith : zMi mM_entriesWith := (zt7 (i := 121) rfl)
theorem mvM_entriesWith : zMv mM_entriesWith := (zt7 (i := 122) rfl)
def mM_entryAt : zM := (⟨"PrefixCodeIndexModel", "entryAt", "(I)I"⟩, prog_10_method_7_code, 1, (some .int), [])
theorem mdM_entryAt : zMd mM_entryAt 1 := ⟨(zt6 (i := 132) rfl), (zt1 (i := 9) rfl), ⟨by decide +kernel, by decide +kernel, by decide +kernel⟩, by decide +kernel, by decide +kernel⟩
theorem msM_entryAt : zMs mM_entryAt := (zt6 (i := 131) rfl)
def mM_entryCount : zM := (⟨"PrefixCodeIndexModel", "entryCount", "()I"⟩, prog_10_method_44_code, 1, (some .int), [])
theorem mdM_entryCount : zMd mM_entryCount 0 := ⟨(zt7 (i := 13) rfl), (zt1 (i := 9) rfl), ⟨by decide +kernel, by decide +kernel, by decide +kernel⟩, by decide +kernel, by decide +kernel⟩
theorem miM_entryCount : zMi mM_entryCount := (zt7 (i := 11) rfl)
theorem mvM_entryCount : zMv mM_entryCount := (zt7 (i := 12) rfl)
def mM_entryIt : zM := (⟨"PrefixCodeIndexModel", "entryIt", "(I)I"⟩, prog_10_method_22_code, 3, (some .int), [])
theorem mdM_entryIt : zMd mM_entryIt 1 := ⟨(zt6 (i := 121) rfl), (zt1 (i := 9) rfl), ⟨by decide +kernel, by decide +kernel, by decide +kernel⟩, by decide +kernel, by decide +kernel⟩
theorem miM_entryIt : zMi mM_entryIt := (zt6 (i := 120) rfl)
theorem mvM_entryIt : zMv mM_entryIt := (zt0 (i := 34) rfl)
def mM_errorPosition : zM := (⟨"PrefixCodeIndexModel", "errorPosition", "()I"⟩, prog_10_method_98_code, 1, (some .int), [])
theorem mdM_errorPosition : zMd mM_errorPosition 0 := ⟨(zt8 (i := 22) rfl), (zt1 (i := 9) rfl), ⟨by decide +kernel, by decide +kernel, by decide +kernel⟩, by decide +kernel, by decide +kernel⟩
theorem miM_errorPosition : zMi mM_errorPosition := (zt8 (i := 20) rfl)
theorem mvM_errorPosition : zMv mM_errorPosition := (zt8 (i := 21) rfl)
def mM_expects : zM := (⟨"PrefixCodeIndexModel", "expects", "(I)V"⟩, prog_10_method_89_code, 2, none, [])
theorem mdM_expects : zMd mM_expects 1 := ⟨(zt8 (i := 14) rfl), (zt1 (i := 9) rfl), ⟨by decide +kernel, by decide +kernel, by decide +kernel⟩, by decide +kernel, by decide +kernel⟩
theorem miM_expects : zMi mM_expects := (zt8 (i := 13) rfl)
theorem mvM_expects : zMv mM_expects := (zt0 (i := 70) rfl)
def mM_fadedShare : zM := (⟨"PrefixCodeIndexModel", "fadedShare", "()F"⟩, prog_10_method_79_code, 1, (some .float), [])
theorem mdM_fadedShare : zMd mM_fadedShare 0 := ⟨(zt7 (i := 181) rfl), (zt1 (i := 9) rfl), ⟨by decide +kernel, by decide +kernel, by decide +kernel⟩, by decide +kernel, by decide +kernel⟩
theorem miM_fadedShare : zMi mM_fadedShare := (zt7 (i := 179) rfl)
theorem mvM_fadedShare : zMv mM_fadedShare := (zt7 (i := 180) rfl)
def mM_fadedTotal : zM := (⟨"PrefixCodeIndexModel", "fadedTotal", "()I"⟩, prog_10_method_77_code, 1, (some .int), [])
theorem mdM_fadedTotal : zMd mM_fadedTotal 0 := ⟨(zt7 (i := 173) rfl), (zt1 (i := 9) rfl), ⟨by decide +kernel, by decide +kernel, by decide +kernel⟩, by decide +kernel, by decide +kernel⟩
theorem miM_fadedTotal : zMi mM_fadedTotal := (zt7 (i := 171) rfl)
theorem mvM_fadedTotal : zMv mM_fadedTotal := (zt7 (i := 172) rfl)
def mM_fadingWithin : zM := (⟨"PrefixCodeIndexModel", "fadingWithin", "(I)I"⟩, prog_10_method_73_code, 4, (some .int), [])
theorem mdM_fadingWithin : zMd mM_fadingWithin 1 := ⟨(zt7 (i := 157) rfl), (zt1 (i := 9) rfl), ⟨by decide +kernel, by decide +kernel, by decide +kernel⟩, by decide +kernel, by decide +kernel⟩
theorem miM_fadingWithin : zMi mM_fadingWithin := (zt7 (i := 155) rfl)
theorem mvM_fadingWithin : zMv mM_fadingWithin := (zt7 (i := 156) rfl)
def mM_failedCommand : zM := (⟨"PrefixCodeIndexModel", "failedCommand", "()I"⟩, prog_10_method_99_code, 1, (some .int), [])
theorem mdM_failedCommand : zMd mM_failedCommand 0 := ⟨(zt8 (i := 26) rfl), (zt1 (i := 9) rfl), ⟨by decide +kernel, by decide +kernel, by decide +kernel⟩, by decide +kernel, by decide +kernel⟩
theorem miM_failedCommand : zMi mM_failedCommand := (zt8 (i := 24) rfl)
theorem mvM_failedCommand : zMv mM_failedCommand := (zt8 (i := 25) rfl)
def mM_find : zM := (⟨"PrefixCodeIndexModel", "find", "(I)I"⟩, prog_10_method_8_code, 3, (some .int), [])
theorem mdM_find : zMd mM_find 1 := ⟨(zt6 (i := 148) rfl), (zt1 (i := 9) rfl), ⟨by decide +kernel, by decide +kernel, by decide +kernel⟩, by decide +kernel, by decide +kernel⟩
theorem miM_find : zMi mM_find := (zt6 (i := 147) rfl)
theorem mvM_find : zMv mM_find := (zt0 (i := 38) rfl)
def mM_formatEntry : zM := (⟨"PrefixCodeIndexModel", "formatEntry", "(I)I"⟩, prog_10_method_84_code, 5, (some .int), [])
theorem mdM_formatEntry : zMd mM_formatEntry 1 := ⟨(zt7 (i := 189) rfl), (zt1 (i := 9) rfl), ⟨by decide +kernel, by decide +kernel, by decide +kernel⟩, by decide +kernel, by decide +kernel⟩
theorem miM_formatEntry : zMi mM_formatEntry := (zt7 (i := 187) rfl)
theorem mvM_formatEntry : zMv mM_formatEntry := (zt7 (i := 188) rfl)
def mM_formatResults : zM := (⟨"PrefixCodeIndexModel", "formatResults", "(II)I"⟩, prog_10_method_85_code, 6, (some .int), [])
theorem mdM_formatResults : zMd mM_formatResults 2 := ⟨(zt7 (i := 206) rfl), (zt1 (i := 9) rfl), ⟨by decide +kernel, by decide +kernel, by decide +kernel⟩, by decide +kernel, by decide +kernel⟩
theorem miM_formatResults : zMi mM_formatResults := (zt7 (i := 204) rfl)
theorem mvM_formatResults : zMv mM_formatResults := (zt7 (i := 205) rfl)
def mM_has : zM := (⟨"PrefixCodeIndexModel", "has", "(III)Z"⟩, prog_10_method_11_code, 3, (some .boolean), [])
theorem mdM_has : zMd mM_has 3 := ⟨(zt6 (i := 160) rfl), (zt1 (i := 9) rfl), ⟨by decide +kernel, by decide +kernel, by decide +kernel⟩, by decide +kernel, by decide +kernel⟩
theorem msM_has : zMs mM_has := (zt6 (i := 159) rfl)
def mM_hasCode : zM := (⟨"PrefixCodeIndexModel", "hasCode", "(II)Z"⟩, prog_10_method_54_code, 3, (some .boolean), [])
theorem mdM_hasCode : zMd mM_hasCode 2 := ⟨(zt7 (i := 57) rfl), (zt1 (i := 9) rfl), ⟨by decide +kernel, by decide +kernel, by decide +kernel⟩, by decide +kernel, by decide +kernel⟩
theorem miM_hasCode : zMi mM_hasCode := (zt7 (i := 55) rfl)
theorem mvM_hasCode : zMv mM_hasCode := (zt7 (i := 56) rfl)
def mM_here : zM := (⟨"PrefixCodeIndexModel", "here", "()I"⟩, prog_10_method_88_code, 1, (some .int), [])
theorem mdM_here : zMd mM_here 0 := ⟨(zt8 (i := 0) rfl), (zt1 (i := 9) rfl), ⟨by decide +kernel, by decide +kernel, by decide +kernel⟩, by decide +kernel, by decide +kernel⟩
theorem miM_here : zMi mM_here := (zt7 (i := 239) rfl)
theorem mvM_here : zMv mM_here := (zt0 (i := 67) rfl)
def mM_hitsOf : zM := (⟨"PrefixCodeIndexModel", "hitsOf", "(I)I"⟩, prog_10_method_49_code, 2, (some .int), [])
theorem mdM_hitsOf : zMd mM_hitsOf 1 := ⟨(zt7 (i := 37) rfl), (zt1 (i := 9) rfl), ⟨by decide +kernel, by decide +kernel, by decide +kernel⟩, by decide +kernel, by decide +kernel⟩
theorem miM_hitsOf : zMi mM_hitsOf := (zt7 (i := 35) rfl)
theorem mvM_hitsOf : zMv mM_hitsOf := (zt7 (i := 36) rfl)
def mM_holders : zM := (⟨"PrefixCodeIndexModel", "holders", "(I)I"⟩, prog_10_method_17_code, 2, (some .int), [])
theorem mdM_holders : zMd mM_holders 1 := ⟨(zt7 (i := 106) rfl), (zt1 (i := 9) rfl), ⟨by decide +kernel, by decide +kernel, by decide +kernel⟩, by decide +kernel, by decide +kernel⟩
theorem miM_holders : zMi mM_holders := (zt7 (i := 105) rfl)
theorem mvM_holders : zMv mM_holders := (zt0 (i := 58) rfl)
def mM_idAt : zM := (⟨"PrefixCodeIndexModel", "idAt", "(I)I"⟩, prog_10_method_45_code, 2, (some .int), [])
theorem mdM_idAt : zMd mM_idAt 1 := ⟨(zt7 (i := 21) rfl), (zt1 (i := 9) rfl), ⟨by decide +kernel, by decide +kernel, by decide +kernel⟩, by decide +kernel, by decide +kernel⟩
theorem miM_idAt : zMi mM_idAt := (zt7 (i := 19) rfl)
theorem mvM_idAt : zMv mM_idAt := (zt7 (i := 20) rfl)
def mM_in : zM := (⟨"PrefixCodeIndexModel", "in", "(JJJ)Z"⟩, prog_10_method_4_code, 6, (some .boolean), [])
theorem mdM_in : zMd mM_in 3 := ⟨(zt6 (i := 125) rfl), (zt1 (i := 9) rfl), ⟨by decide +kernel, by decide +kernel, by decide +kernel⟩, by decide +kernel, by decide +kernel⟩
theorem msM_in : zMs mM_in := (zt6 (i := 124) rfl)
def mM_init : zM := (⟨"PrefixCodeIndexModel", "<init>", "()V"⟩, prog_10_method_1_code, 1, none, [])
theorem mdM_init : zMd mM_init 0 := ⟨(zt6 (i := 40) rfl), (zt1 (i := 9) rfl), ⟨by decide +kernel, by decide +kernel, by decide +kernel⟩, by decide +kernel, by decide +kernel⟩
theorem miM_init : zMi mM_init := (zt6 (i := 39) rfl)
def mM_isConsistent : zM := (⟨"PrefixCodeIndexModel", "isConsistent", "()Z"⟩, prog_10_method_80_code, 1, (some .boolean), [])
theorem mdM_isConsistent : zMd mM_isConsistent 0 := ⟨(zt7 (i := 185) rfl), (zt1 (i := 9) rfl), ⟨by decide +kernel, by decide +kernel, by decide +kernel⟩, by decide +kernel, by decide +kernel⟩
theorem miM_isConsistent : zMi mM_isConsistent := (zt7 (i := 183) rfl)
theorem mvM_isConsistent : zMv mM_isConsistent := (zt7 (i := 184) rfl)
def mM_isPrefix : zM := (⟨"PrefixCodeIndexModel", "isPrefix", "(III)Z"⟩, prog_10_method_10_code, 3, (some .boolean), [])
theorem mdM_isPrefix : zMd mM_isPrefix 3 := ⟨(zt6 (i := 236) rfl), (zt1 (i := 9) rfl), ⟨by decide +kernel, by decide +kernel, by decide +kernel⟩, by decide +kernel, by decide +kernel⟩
theorem msM_isPrefix : zMs mM_isPrefix := (zt6 (i := 235) rfl)
def mM_joinIt : zM := (⟨"PrefixCodeIndexModel", "joinIt", "(I)I"⟩, prog_10_method_37_code, 3, (some .int), [])
theorem mdM_joinIt : zMd mM_joinIt 1 := ⟨(zt6 (i := 225) rfl), (zt1 (i := 9) rfl), ⟨by decide +kernel, by decide +kernel, by decide +kernel⟩, by decide +kernel, by decide +kernel⟩
theorem miM_joinIt : zMi mM_joinIt := (zt6 (i := 224) rfl)
theorem mvM_joinIt : zMv mM_joinIt := (zt0 (i := 49) rfl)
def mM_joinSegments : zM := (⟨"PrefixCodeIndexModel", "joinSegments", "(I)I"⟩, prog_10_method_38_code, 2, (some .int), [])
theorem mdM_joinSegments : zMd mM_joinSegments 1 := ⟨(zt6 (i := 221) rfl), (zt1 (i := 9) rfl), ⟨by decide +kernel, by decide +kernel, by decide +kernel⟩, by decide +kernel, by decide +kernel⟩
theorem miM_joinSegments : zMi mM_joinSegments := (zt6 (i := 219) rfl)
theorem mvM_joinSegments : zMv mM_joinSegments := (zt6 (i := 220) rfl)
def mM_leaves : zM := (⟨"PrefixCodeIndexModel", "leaves", "(I)V"⟩, prog_10_method_20_code, 3, none, [])
theorem mdM_leaves : zMd mM_leaves 1 := ⟨(zt6 (i := 187) rfl), (zt1 (i := 9) rfl), ⟨by decide +kernel, by decide +kernel, by decide +kernel⟩, by decide +kernel, by decide +kernel⟩
theorem miM_leaves : zMi mM_leaves := (zt6 (i := 186) rfl)
theorem mvM_leaves : zMv mM_leaves := (zt0 (i := 44) rfl)
def mM_lifetime : zM := (⟨"PrefixCodeIndexModel", "lifetime", "(I)I"⟩, prog_10_method_18_code, 3, (some .int), [])
theorem mdM_lifetime : zMd mM_lifetime 1 := ⟨(zt7 (i := 9) rfl), (zt1 (i := 9) rfl), ⟨by decide +kernel, by decide +kernel, by decide +kernel⟩, by decide +kernel, by decide +kernel⟩
theorem miM_lifetime : zMi mM_lifetime := (zt7 (i := 8) rfl)
theorem mvM_lifetime : zMv mM_lifetime := (zt0 (i := 52) rfl)
def mM_lifetimeOf : zM := (⟨"PrefixCodeIndexModel", "lifetimeOf", "(I)I"⟩, prog_10_method_50_code, 2, (some .int), [])
theorem mdM_lifetimeOf : zMd mM_lifetimeOf 1 := ⟨(zt7 (i := 41) rfl), (zt1 (i := 9) rfl), ⟨by decide +kernel, by decide +kernel, by decide +kernel⟩, by decide +kernel, by decide +kernel⟩
theorem miM_lifetimeOf : zMi mM_lifetimeOf := (zt7 (i := 39) rfl)
theorem mvM_lifetimeOf : zMv mM_lifetimeOf := (zt7 (i := 40) rfl)
def mM_likeness : zM := (⟨"PrefixCodeIndexModel", "likeness", "(I)I"⟩, prog_10_method_93_code, 4, (some .int), [])
theorem mdM_likeness : zMd mM_likeness 1 := ⟨(zt7 (i := 228) rfl), (zt1 (i := 9) rfl), ⟨by decide +kernel, by decide +kernel, by decide +kernel⟩, by decide +kernel, by decide +kernel⟩
theorem miM_likeness : zMi mM_likeness := (zt7 (i := 227) rfl)
theorem mvM_likeness : zMv mM_likeness := (zt0 (i := 64) rfl)
def mM_lineChar : zM := (⟨"PrefixCodeIndexModel", "lineChar", "(I)C"⟩, prog_10_method_86_code, 2, (some .char), [])
theorem mdM_lineChar : zMd mM_lineChar 1 := ⟨(zt7 (i := 210) rfl), (zt1 (i := 9) rfl), ⟨by decide +kernel, by decide +kernel, by decide +kernel⟩, by decide +kernel, by decide +kernel⟩
theorem miM_lineChar : zMi mM_lineChar := (zt7 (i := 208) rfl)
theorem mvM_lineChar : zMv mM_lineChar := (zt7 (i := 209) rfl)
def mM_many : zM := (⟨"PrefixCodeIndexModel", "many", "(III)I"⟩, prog_10_method_13_code, 6, (some .int), [])
theorem mdM_many : zMd mM_many 3 := ⟨(zt6 (i := 153) rfl), (zt1 (i := 9) rfl), ⟨by decide +kernel, by decide +kernel, by decide +kernel⟩, by decide +kernel, by decide +kernel⟩
theorem miM_many : zMi mM_many := (zt6 (i := 152) rfl)
theorem mvM_many : zMv mM_many := (zt0 (i := 39) rfl)
def mM_matches : zM := (⟨"PrefixCodeIndexModel", "matches", "(III)Z"⟩, prog_10_method_55_code, 4, (some .boolean), [])
theorem mdM_matches : zMd mM_matches 3 := ⟨(zt7 (i := 61) rfl), (zt1 (i := 9) rfl), ⟨by decide +kernel, by decide +kernel, by decide +kernel⟩, by decide +kernel, by decide +kernel⟩
theorem miM_matches : zMi mM_matches := (zt7 (i := 59) rfl)
theorem mvM_matches : zMv mM_matches := (zt7 (i := 60) rfl)
def mM_meanCodes : zM := (⟨"PrefixCodeIndexModel", "meanCodes", "()D"⟩, prog_10_method_78_code, 3, (some .double), [])
theorem mdM_meanCodes : zMd mM_meanCodes 0 := ⟨(zt7 (i := 177) rfl), (zt1 (i := 9) rfl), ⟨by decide +kernel, by decide +kernel, by decide +kernel⟩, by decide +kernel, by decide +kernel⟩
theorem miM_meanCodes : zMi mM_meanCodes := (zt7 (i := 175) rfl)
theorem mvM_meanCodes : zMv mM_meanCodes := (zt7 (i := 176) rfl)
def mM_merge : zM := (⟨"PrefixCodeIndexModel", "merge", "(II)I"⟩, prog_10_method_34_code, 3, (some .int), [])
theorem mdM_merge : zMd mM_merge 2 := ⟨(zt6 (i := 199) rfl), (zt1 (i := 9) rfl), ⟨by decide +kernel, by decide +kernel, by decide +kernel⟩, by decide +kernel, by decide +kernel⟩
theorem miM_merge : zMi mM_merge := (zt6 (i := 197) rfl)
theorem mvM_merge : zMv mM_merge := (zt6 (i := 198) rfl)
def mM_mergeIt : zM := (⟨"PrefixCodeIndexModel", "mergeIt", "(II)I"⟩, prog_10_method_33_code, 8, (some .int), [])
theorem mdM_mergeIt : zMd mM_mergeIt 2 := ⟨(zt6 (i := 203) rfl), (zt1 (i := 9) rfl), ⟨by decide +kernel, by decide +kernel, by decide +kernel⟩, by decide +kernel, by decide +kernel⟩
theorem miM_mergeIt : zMi mM_mergeIt := (zt6 (i := 202) rfl)
theorem mvM_mergeIt : zMv mM_mergeIt := (zt0 (i := 46) rfl)
def mM_mergedTotal : zM := (⟨"PrefixCodeIndexModel", "mergedTotal", "()I"⟩, prog_10_method_76_code, 1, (some .int), [])
theorem mdM_mergedTotal : zMd mM_mergedTotal 0 := ⟨(zt7 (i := 169) rfl), (zt1 (i := 9) rfl), ⟨by decide +kernel, by decide +kernel, by decide +kernel⟩, by decide +kernel, by decide +kernel⟩
theorem miM_mergedTotal : zMi mM_mergedTotal := (zt7 (i := 167) rfl)
theorem mvM_mergedTotal : zMv mM_mergedTotal := (zt7 (i := 168) rfl)
def mM_mostSimilar : zM := (⟨"PrefixCodeIndexModel", "mostSimilar", "(I)I"⟩, prog_10_method_70_code, 6, (some .int), [])
theorem mdM_mostSimilar : zMd mM_mostSimilar 1 := ⟨(zt7 (i := 140) rfl), (zt1 (i := 9) rfl), ⟨by decide +kernel, by decide +kernel, by decide +kernel⟩, by decide +kernel, by decide +kernel⟩
theorem miM_mostSimilar : zMi mM_mostSimilar := (zt7 (i := 138) rfl)
theorem mvM_mostSimilar : zMv mM_mostSimilar := (zt7 (i := 139) rfl)
def mM_nextDigits : zM := (⟨"PrefixCodeIndexModel", "nextDigits", "(II)I"⟩, prog_10_method_63_code, 5, (some .int), [])
theorem mdM_nextDigits : zMd mM_nextDigits 2 := ⟨(zt7 (i := 110) rfl), (zt1 (i := 9) rfl), ⟨by decide +kernel, by decide +kernel, by decide +kernel⟩, by decide +kernel, by decide +kernel⟩
theorem miM_nextDigits : zMi mM_nextDigits := (zt7 (i := 108) rfl)
theorem mvM_nextDigits : zMv mM_nextDigits := (zt7 (i := 109) rfl)
def mM_number : zM := (⟨"PrefixCodeIndexModel", "number", "()I"⟩, prog_10_method_91_code, 2, (some .int), [])
theorem mdM_number : zMd mM_number 0 := ⟨(zt8 (i := 6) rfl), (zt1 (i := 9) rfl), ⟨by decide +kernel, by decide +kernel, by decide +kernel⟩, by decide +kernel, by decide +kernel⟩
theorem miM_number : zMi mM_number := (zt8 (i := 5) rfl)
theorem mvM_number : zMv mM_number := (zt0 (i := 68) rfl)
def mM_numberBehind : zM := (⟨"PrefixCodeIndexModel", "numberBehind", "()I"⟩, prog_10_method_92_code, 1, (some .int), [])
theorem mdM_numberBehind : zMd mM_numberBehind 0 := ⟨(zt8 (i := 10) rfl), (zt1 (i := 9) rfl), ⟨by decide +kernel, by decide +kernel, by decide +kernel⟩, by decide +kernel, by decide +kernel⟩
theorem miM_numberBehind : zMi mM_numberBehind := (zt8 (i := 9) rfl)
theorem mvM_numberBehind : zMv mM_numberBehind := (zt0 (i := 69) rfl)
def mM_ofEntry : zM := (⟨"PrefixCodeIndexModel", "ofEntry", "(II)I"⟩, prog_10_method_46_code, 3, (some .int), [])
theorem mdM_ofEntry : zMd mM_ofEntry 2 := ⟨(zt7 (i := 29) rfl), (zt1 (i := 9) rfl), ⟨by decide +kernel, by decide +kernel, by decide +kernel⟩, by decide +kernel, by decide +kernel⟩
theorem miM_ofEntry : zMi mM_ofEntry := (zt7 (i := 28) rfl)
theorem mvM_ofEntry : zMv mM_ofEntry := (zt0 (i := 54) rfl)
def mM_pass : zM := (⟨"PrefixCodeIndexModel", "pass", "(I)I"⟩, prog_10_method_42_code, 2, (some .int), [])
theorem mdM_pass : zMd mM_pass 1 := ⟨(zt7 (i := 0) rfl), (zt1 (i := 9) rfl), ⟨by decide +kernel, by decide +kernel, by decide +kernel⟩, by decide +kernel, by decide +kernel⟩
theorem miM_pass : zMi mM_pass := (zt6 (i := 238) rfl)
theorem mvM_pass : zMv mM_pass := (zt6 (i := 239) rfl)
def mM_passIt : zM := (⟨"PrefixCodeIndexModel", "passIt", "(I)I"⟩, prog_10_method_41_code, 5, (some .int), [])
theorem mdM_passIt : zMd mM_passIt 1 := ⟨(zt7 (i := 4) rfl), (zt1 (i := 9) rfl), ⟨by decide +kernel, by decide +kernel, by decide +kernel⟩, by decide +kernel, by decide +kernel⟩
theorem miM_passIt : zMi mM_passIt := (zt7 (i := 3) rfl)
theorem mvM_passIt : zMv mM_passIt := (zt0 (i := 51) rfl)
def mM_power : zM := (⟨"PrefixCodeIndexModel", "power", "(I)I"⟩, prog_10_method_9_code, 3, (some .int), [])
theorem mdM_power : zMd mM_power 1 := ⟨(zt6 (i := 163) rfl), (zt1 (i := 9) rfl), ⟨by decide +kernel, by decide +kernel, by decide +kernel⟩, by decide +kernel, by decide +kernel⟩
theorem msM_power : zMs mM_power := (zt6 (i := 162) rfl)
def mM_puts : zM := (⟨"PrefixCodeIndexModel", "puts", "(II)V"⟩, prog_10_method_21_code, 5, none, [])
theorem mdM_puts : zMd mM_puts 2 := ⟨(zt6 (i := 167) rfl), (zt1 (i := 9) rfl), ⟨by decide +kernel, by decide +kernel, by decide +kernel⟩, by decide +kernel, by decide +kernel⟩
theorem miM_puts : zMi mM_puts := (zt6 (i := 166) rfl)
theorem mvM_puts : zMv mM_puts := (zt0 (i := 41) rfl)
def mM_readArguments : zM := (⟨"PrefixCodeIndexModel", "readArguments", "(II)V"⟩, prog_10_method_94_code, 4, none, [])
theorem mdM_readArguments : zMd mM_readArguments 2 := ⟨(zt7 (i := 232) rfl), (zt1 (i := 9) rfl), ⟨by decide +kernel, by decide +kernel, by decide +kernel⟩, by decide +kernel, by decide +kernel⟩
theorem miM_readArguments : zMi mM_readArguments := (zt7 (i := 231) rfl)
theorem mvM_readArguments : zMv mM_readArguments := (zt0 (i := 65) rfl)
def mM_readCommand : zM := (⟨"PrefixCodeIndexModel", "readCommand", "()V"⟩, prog_10_method_95_code, 4, none, [])
theorem mdM_readCommand : zMd mM_readCommand 0 := ⟨(zt7 (i := 224) rfl), (zt1 (i := 9) rfl), ⟨by decide +kernel, by decide +kernel, by decide +kernel⟩, by decide +kernel, by decide +kernel⟩
theorem miM_readCommand : zMi mM_readCommand := (zt7 (i := 223) rfl)
theorem mvM_readCommand : zMv mM_readCommand := (zt0 (i := 63) rfl)
def mM_removeCode : zM := (⟨"PrefixCodeIndexModel", "removeCode", "(II)I"⟩, prog_10_method_27_code, 3, (some .int), [])
theorem mdM_removeCode : zMd mM_removeCode 2 := ⟨(zt6 (i := 171) rfl), (zt1 (i := 9) rfl), ⟨by decide +kernel, by decide +kernel, by decide +kernel⟩, by decide +kernel, by decide +kernel⟩
theorem miM_removeCode : zMi mM_removeCode := (zt6 (i := 169) rfl)
theorem mvM_removeCode : zMv mM_removeCode := (zt6 (i := 170) rfl)
def mM_removeEntry : zM := (⟨"PrefixCodeIndexModel", "removeEntry", "(I)I"⟩, prog_10_method_29_code, 2, (some .int), [])
theorem mdM_removeEntry : zMd mM_removeEntry 1 := ⟨(zt6 (i := 179) rfl), (zt1 (i := 9) rfl), ⟨by decide +kernel, by decide +kernel, by decide +kernel⟩, by decide +kernel, by decide +kernel⟩
theorem miM_removeEntry : zMi mM_removeEntry := (zt6 (i := 177) rfl)
theorem mvM_removeEntry : zMv mM_removeEntry := (zt6 (i := 178) rfl)
def mM_removedTotal : zM := (⟨"PrefixCodeIndexModel", "removedTotal", "()I"⟩, prog_10_method_75_code, 1, (some .int), [])
theorem mdM_removedTotal : zMd mM_removedTotal 0 := ⟨(zt7 (i := 165) rfl), (zt1 (i := 9) rfl), ⟨by decide +kernel, by decide +kernel, by decide +kernel⟩, by decide +kernel, by decide +kernel⟩
theorem miM_removedTotal : zMi mM_removedTotal := (zt7 (i := 163) rfl)
theorem mvM_removedTotal : zMv mM_removedTotal := (zt7 (i := 164) rfl)
def mM_restore : zM := (⟨"PrefixCodeIndexModel", "restore", "()I"⟩, prog_10_method_103_code, 2, (some .int), [])
theorem mdM_restore : zMd mM_restore 0 := ⟨(zt8 (i := 42) rfl), (zt1 (i := 9) rfl), ⟨by decide +kernel, by decide +kernel, by decide +kernel⟩, by decide +kernel, by decide +kernel⟩
theorem miM_restore : zMi mM_restore := (zt8 (i := 40) rfl)
theorem mvM_restore : zMv mM_restore := (zt8 (i := 41) rfl)
def mM_result : zM := (⟨"PrefixCodeIndexModel", "result", "(III)I"⟩, prog_10_method_16_code, 9, (some .int), [])
theorem mdM_result : zMd mM_result 3 := ⟨(zt7 (i := 90) rfl), (zt1 (i := 9) rfl), ⟨by decide +kernel, by decide +kernel, by decide +kernel⟩, by decide +kernel, by decide +kernel⟩
theorem miM_result : zMi mM_result := (zt7 (i := 89) rfl)
theorem mvM_result : zMv mM_result := (zt0 (i := 56) rfl)
def mM_resultAt : zM := (⟨"PrefixCodeIndexModel", "resultAt", "(III)I"⟩, prog_10_method_60_code, 5, (some .int), [])
theorem mdM_resultAt : zMd mM_resultAt 3 := ⟨(zt7 (i := 86) rfl), (zt1 (i := 9) rfl), ⟨by decide +kernel, by decide +kernel, by decide +kernel⟩, by decide +kernel, by decide +kernel⟩
theorem miM_resultAt : zMi mM_resultAt := (zt7 (i := 84) rfl)
theorem mvM_resultAt : zMv mM_resultAt := (zt7 (i := 85) rfl)
def mM_resultCount : zM := (⟨"PrefixCodeIndexModel", "resultCount", "(II)I"⟩, prog_10_method_58_code, 3, (some .int), [])
theorem mdM_resultCount : zMd mM_resultCount 2 := ⟨(zt7 (i := 73) rfl), (zt1 (i := 9) rfl), ⟨by decide +kernel, by decide +kernel, by decide +kernel⟩, by decide +kernel, by decide +kernel⟩
theorem miM_resultCount : zMi mM_resultCount := (zt7 (i := 71) rfl)
theorem mvM_resultCount : zMv mM_resultCount := (zt7 (i := 72) rfl)
def mM_resultCountByScan : zM := (⟨"PrefixCodeIndexModel", "resultCountByScan", "(II)I"⟩, prog_10_method_59_code, 3, (some .int), [])
theorem mdM_resultCountByScan : zMd mM_resultCountByScan 2 := ⟨(zt7 (i := 81) rfl), (zt1 (i := 9) rfl), ⟨by decide +kernel, by decide +kernel, by decide +kernel⟩, by decide +kernel, by decide +kernel⟩
theorem miM_resultCountByScan : zMi mM_resultCountByScan := (zt7 (i := 79) rfl)
theorem mvM_resultCountByScan : zMv mM_resultCountByScan := (zt7 (i := 80) rfl)
def mM_results : zM := (⟨"PrefixCodeIndexModel", "results", "(II)I"⟩, prog_10_method_15_code, 5, (some .int), [])
theorem mdM_results : zMd mM_results 2 := ⟨(zt7 (i := 77) rfl), (zt1 (i := 9) rfl), ⟨by decide +kernel, by decide +kernel, by decide +kernel⟩, by decide +kernel, by decide +kernel⟩
theorem miM_results : zMi mM_results := (zt7 (i := 76) rfl)
theorem mvM_results : zMv mM_results := (zt0 (i := 55) rfl)
def mM_run : zM := (⟨"PrefixCodeIndexModel", "run", "()I"⟩, prog_10_method_97_code, 4, (some .int), [])
theorem mdM_run : zMd mM_run 0 := ⟨(zt7 (i := 220) rfl), (zt1 (i := 9) rfl), ⟨by decide +kernel, by decide +kernel, by decide +kernel⟩, by decide +kernel, by decide +kernel⟩
theorem miM_run : zMi mM_run := (zt7 (i := 218) rfl)
theorem mvM_run : zMv mM_run := (zt7 (i := 219) rfl)
def mM_save : zM := (⟨"PrefixCodeIndexModel", "save", "()I"⟩, prog_10_method_102_code, 2, (some .int), [])
theorem mdM_save : zMd mM_save 0 := ⟨(zt8 (i := 38) rfl), (zt1 (i := 9) rfl), ⟨by decide +kernel, by decide +kernel, by decide +kernel⟩, by decide +kernel, by decide +kernel⟩
theorem miM_save : zMi mM_save := (zt8 (i := 36) rfl)
theorem mvM_save : zMv mM_save := (zt8 (i := 37) rfl)
def mM_score : zM := (⟨"PrefixCodeIndexModel", "score", "(III)I"⟩, prog_10_method_14_code, 5, (some .int), [])
theorem mdM_score : zMd mM_score 3 := ⟨(zt7 (i := 94) rfl), (zt1 (i := 9) rfl), ⟨by decide +kernel, by decide +kernel, by decide +kernel⟩, by decide +kernel, by decide +kernel⟩
theorem miM_score : zMi mM_score := (zt7 (i := 93) rfl)
theorem mvM_score : zMv mM_score := (zt0 (i := 57) rfl)
def mM_scoreOf : zM := (⟨"PrefixCodeIndexModel", "scoreOf", "(III)I"⟩, prog_10_method_61_code, 4, (some .int), [])
theorem mdM_scoreOf : zMd mM_scoreOf 3 := ⟨(zt7 (i := 98) rfl), (zt1 (i := 9) rfl), ⟨by decide +kernel, by decide +kernel, by decide +kernel⟩, by decide +kernel, by decide +kernel⟩
theorem miM_scoreOf : zMi mM_scoreOf := (zt7 (i := 96) rfl)
theorem mvM_scoreOf : zMv mM_scoreOf := (zt7 (i := 97) rfl)
def mM_search : zM := (⟨"PrefixCodeIndexModel", "search", "(II)I"⟩, prog_10_method_40_code, 3, (some .int), [])
theorem mdM_search : zMd mM_search 2 := ⟨(zt6 (i := 229) rfl), (zt1 (i := 9) rfl), ⟨by decide +kernel, by decide +kernel, by decide +kernel⟩, by decide +kernel, by decide +kernel⟩
theorem miM_search : zMi mM_search := (zt6 (i := 227) rfl)
theorem mvM_search : zMv mM_search := (zt6 (i := 228) rfl)
def mM_searchIt : zM := (⟨"PrefixCodeIndexModel", "searchIt", "(II)I"⟩, prog_10_method_39_code, 5, (some .int), [])
theorem mdM_searchIt : zMd mM_searchIt 2 := ⟨(zt6 (i := 233) rfl), (zt1 (i := 9) rfl), ⟨by decide +kernel, by decide +kernel, by decide +kernel⟩, by decide +kernel, by decide +kernel⟩
theorem miM_searchIt : zMi mM_searchIt := (zt6 (i := 232) rfl)
theorem mvM_searchIt : zMv mM_searchIt := (zt0 (i := 50) rfl)
def mM_segmentCount : zM := (⟨"PrefixCodeIndexModel", "segmentCount", "()I"⟩, prog_10_method_56_code, 1, (some .int), [])
theorem mdM_segmentCount : zMd mM_segmentCount 0 := ⟨(zt7 (i := 65) rfl), (zt1 (i := 9) rfl), ⟨by decide +kernel, by decide +kernel, by decide +kernel⟩, by decide +kernel, by decide +kernel⟩
theorem miM_segmentCount : zMi mM_segmentCount := (zt7 (i := 63) rfl)
theorem mvM_segmentCount : zMv mM_segmentCount := (zt7 (i := 64) rfl)
def mM_segmentIt : zM := (⟨"PrefixCodeIndexModel", "segmentIt", "()I"⟩, prog_10_method_35_code, 1, (some .int), [])
theorem mdM_segmentIt : zMd mM_segmentIt 0 := ⟨(zt6 (i := 217) rfl), (zt1 (i := 9) rfl), ⟨by decide +kernel, by decide +kernel, by decide +kernel⟩, by decide +kernel, by decide +kernel⟩
theorem miM_segmentIt : zMi mM_segmentIt := (zt6 (i := 216) rfl)
theorem mvM_segmentIt : zMv mM_segmentIt := (zt0 (i := 48) rfl)
def mM_segmentOf : zM := (⟨"PrefixCodeIndexModel", "segmentOf", "(I)I"⟩, prog_10_method_51_code, 2, (some .int), [])
theorem mdM_segmentOf : zMd mM_segmentOf 1 := ⟨(zt7 (i := 45) rfl), (zt1 (i := 9) rfl), ⟨by decide +kernel, by decide +kernel, by decide +kernel⟩, by decide +kernel, by decide +kernel⟩
theorem miM_segmentOf : zMi mM_segmentOf := (zt7 (i := 43) rfl)
theorem mvM_segmentOf : zMv mM_segmentOf := (zt7 (i := 44) rfl)
def mM_sharedCodes : zM := (⟨"PrefixCodeIndexModel", "sharedCodes", "(II)I"⟩, prog_10_method_69_code, 3, (some .int), [])
theorem mdM_sharedCodes : zMd mM_sharedCodes 2 := ⟨(zt7 (i := 136) rfl), (zt1 (i := 9) rfl), ⟨by decide +kernel, by decide +kernel, by decide +kernel⟩, by decide +kernel, by decide +kernel⟩
theorem miM_sharedCodes : zMi mM_sharedCodes := (zt7 (i := 134) rfl)
theorem mvM_sharedCodes : zMv mM_sharedCodes := (zt7 (i := 135) rfl)
def mM_sharedDigits : zM := (⟨"PrefixCodeIndexModel", "sharedDigits", "(I)I"⟩, prog_10_method_64_code, 3, (some .int), [])
theorem mdM_sharedDigits : zMd mM_sharedDigits 1 := ⟨(zt7 (i := 114) rfl), (zt1 (i := 9) rfl), ⟨by decide +kernel, by decide +kernel, by decide +kernel⟩, by decide +kernel, by decide +kernel⟩
theorem miM_sharedDigits : zMi mM_sharedDigits := (zt7 (i := 112) rfl)
theorem mvM_sharedDigits : zMv mM_sharedDigits := (zt7 (i := 113) rfl)
def mM_sharedDigitsByScan : zM := (⟨"PrefixCodeIndexModel", "sharedDigitsByScan", "(I)I"⟩, prog_10_method_65_code, 2, (some .int), [])
theorem mdM_sharedDigitsByScan : zMd mM_sharedDigitsByScan 1 := ⟨(zt7 (i := 118) rfl), (zt1 (i := 9) rfl), ⟨by decide +kernel, by decide +kernel, by decide +kernel⟩, by decide +kernel, by decide +kernel⟩
theorem miM_sharedDigitsByScan : zMi mM_sharedDigitsByScan := (zt7 (i := 116) rfl)
theorem mvM_sharedDigitsByScan : zMv mM_sharedDigitsByScan := (zt7 (i := 117) rfl)
def mM_sign : zM := (⟨"PrefixCodeIndexModel", "sign", "(I)V"⟩, prog_10_method_81_code, 2, none, [])
theorem mdM_sign : zMd mM_sign 1 := ⟨(zt7 (i := 197) rfl), (zt1 (i := 9) rfl), ⟨by decide +kernel, by decide +kernel, by decide +kernel⟩, by decide +kernel, by decide +kernel⟩
theorem miM_sign : zMi mM_sign := (zt7 (i := 196) rfl)
theorem mvM_sign : zMv mM_sign := (zt0 (i := 61) rfl)
def mM_startSegment : zM := (⟨"PrefixCodeIndexModel", "startSegment", "()I"⟩, prog_10_method_36_code, 1, (some .int), [])
theorem mdM_startSegment : zMd mM_startSegment 0 := ⟨(zt6 (i := 213) rfl), (zt1 (i := 9) rfl), ⟨by decide +kernel, by decide +kernel, by decide +kernel⟩, by decide +kernel, by decide +kernel⟩
theorem miM_startSegment : zMi mM_startSegment := (zt6 (i := 211) rfl)
theorem mvM_startSegment : zMv mM_startSegment := (zt6 (i := 212) rfl)
def mM_starts : zM := (⟨"PrefixCodeIndexModel", "starts", "()V"⟩, prog_10_method_5_code, 2, none, [])
theorem mdM_starts : zMd mM_starts 0 := ⟨(zt6 (i := 117) rfl), (zt1 (i := 9) rfl), ⟨by decide +kernel, by decide +kernel, by decide +kernel⟩, by decide +kernel, by decide +kernel⟩
theorem miM_starts : zMi mM_starts := (zt6 (i := 116) rfl)
theorem mvM_starts : zMv mM_starts := (zt0 (i := 33) rfl)
def mM_throwing : zM := (⟨"PrefixCodeIndexModel", "throwing", "(I)I"⟩, prog_10_method_3_code, 2, (some .int), [])
theorem mdM_throwing : zMd mM_throwing 1 := ⟨(zt6 (i := 129) rfl), (zt1 (i := 9) rfl), ⟨by decide +kernel, by decide +kernel, by decide +kernel⟩, by decide +kernel, by decide +kernel⟩
theorem miM_throwing : zMi mM_throwing := (zt6 (i := 128) rfl)
theorem mvM_throwing : zMv mM_throwing := (zt0 (i := 35) rfl)
def mM_thrown : zM := (⟨"PrefixCodeIndexModel", "thrown", "()I"⟩, prog_10_method_2_code, 1, (some .int), [])
theorem mdM_thrown : zMd mM_thrown 0 := ⟨(zt6 (i := 109) rfl), (zt1 (i := 9) rfl), ⟨by decide +kernel, by decide +kernel, by decide +kernel⟩, by decide +kernel, by decide +kernel⟩
theorem miM_thrown : zMi mM_thrown := (zt6 (i := 107) rfl)
theorem mvM_thrown : zMv mM_thrown := (zt6 (i := 108) rfl)
def mM_total : zM := (⟨"PrefixCodeIndexModel", "total", "(I)I"⟩, prog_10_method_43_code, 2, (some .int), [])
theorem mdM_total : zMd mM_total 1 := ⟨(zt7 (i := 17) rfl), (zt1 (i := 9) rfl), ⟨by decide +kernel, by decide +kernel, by decide +kernel⟩, by decide +kernel, by decide +kernel⟩
theorem miM_total : zMi mM_total := (zt7 (i := 16) rfl)
theorem mvM_total : zMv mM_total := (zt0 (i := 53) rfl)
def mM_touch : zM := (⟨"PrefixCodeIndexModel", "touch", "(I)I"⟩, prog_10_method_31_code, 2, (some .int), [])
theorem mdM_touch : zMd mM_touch 1 := ⟨(zt6 (i := 191) rfl), (zt1 (i := 9) rfl), ⟨by decide +kernel, by decide +kernel, by decide +kernel⟩, by decide +kernel, by decide +kernel⟩
theorem miM_touch : zMi mM_touch := (zt6 (i := 189) rfl)
theorem mvM_touch : zMv mM_touch := (zt6 (i := 190) rfl)
def mM_touchIt : zM := (⟨"PrefixCodeIndexModel", "touchIt", "(I)I"⟩, prog_10_method_30_code, 4, (some .int), [])
theorem mdM_touchIt : zMd mM_touchIt 1 := ⟨(zt6 (i := 195) rfl), (zt1 (i := 9) rfl), ⟨by decide +kernel, by decide +kernel, by decide +kernel⟩, by decide +kernel, by decide +kernel⟩
theorem miM_touchIt : zMi mM_touchIt := (zt6 (i := 194) rfl)
theorem mvM_touchIt : zMv mM_touchIt := (zt0 (i := 45) rfl)
def mM_uncodeIt : zM := (⟨"PrefixCodeIndexModel", "uncodeIt", "(II)I"⟩, prog_10_method_26_code, 7, (some .int), [])
theorem mdM_uncodeIt : zMd mM_uncodeIt 2 := ⟨(zt6 (i := 175) rfl), (zt1 (i := 9) rfl), ⟨by decide +kernel, by decide +kernel, by decide +kernel⟩, by decide +kernel, by decide +kernel⟩
theorem miM_uncodeIt : zMi mM_uncodeIt := (zt6 (i := 174) rfl)
theorem mvM_uncodeIt : zMv mM_uncodeIt := (zt0 (i := 42) rfl)
def mM_undo : zM := (⟨"PrefixCodeIndexModel", "undo", "()I"⟩, prog_10_method_101_code, 2, (some .int), [])
theorem mdM_undo : zMd mM_undo 0 := ⟨(zt8 (i := 34) rfl), (zt1 (i := 9) rfl), ⟨by decide +kernel, by decide +kernel, by decide +kernel⟩, by decide +kernel, by decide +kernel⟩
theorem miM_undo : zMi mM_undo := (zt8 (i := 32) rfl)
theorem mvM_undo : zMv mM_undo := (zt8 (i := 33) rfl)
def mM_undoableCount : zM := (⟨"PrefixCodeIndexModel", "undoableCount", "()I"⟩, prog_10_method_100_code, 1, (some .int), [])
theorem mdM_undoableCount : zMd mM_undoableCount 0 := ⟨(zt8 (i := 30) rfl), (zt1 (i := 9) rfl), ⟨by decide +kernel, by decide +kernel, by decide +kernel⟩, by decide +kernel, by decide +kernel⟩
theorem miM_undoableCount : zMi mM_undoableCount := (zt8 (i := 28) rfl)
theorem mvM_undoableCount : zMv mM_undoableCount := (zt8 (i := 29) rfl)
def mM_weightOf : zM := (⟨"PrefixCodeIndexModel", "weightOf", "(I)I"⟩, prog_10_method_47_code, 2, (some .int), [])
theorem mdM_weightOf : zMd mM_weightOf 1 := ⟨(zt7 (i := 25) rfl), (zt1 (i := 9) rfl), ⟨by decide +kernel, by decide +kernel, by decide +kernel⟩, by decide +kernel, by decide +kernel⟩
theorem miM_weightOf : zMi mM_weightOf := (zt7 (i := 23) rfl)
theorem mvM_weightOf : zMv mM_weightOf := (zt7 (i := 24) rfl)
def mM_writes : zM := (⟨"PrefixCodeIndexModel", "writes", "(II)V"⟩, prog_10_method_83_code, 3, none, [])
theorem mdM_writes : zMd mM_writes 2 := ⟨(zt7 (i := 193) rfl), (zt1 (i := 9) rfl), ⟨by decide +kernel, by decide +kernel, by decide +kernel⟩, by decide +kernel, by decide +kernel⟩
theorem miM_writes : zMi mM_writes := (zt7 (i := 192) rfl)
theorem mvM_writes : zMv mM_writes := (zt0 (i := 60) rfl)
def mM_writesNumber : zM := (⟨"PrefixCodeIndexModel", "writesNumber", "(I)V"⟩, prog_10_method_82_code, 4, none, [])
theorem mdM_writesNumber : zMd mM_writesNumber 1 := ⟨(zt7 (i := 201) rfl), (zt1 (i := 9) rfl), ⟨by decide +kernel, by decide +kernel, by decide +kernel⟩, by decide +kernel, by decide +kernel⟩
theorem miM_writesNumber : zMi mM_writesNumber := (zt7 (i := 200) rfl)
theorem mvM_writesNumber : zMv mM_writesNumber := (zt0 (i := 62) rfl)
def mN_abs : zM := (⟨"java/lang/Math", "abs", "(I)I"⟩, prog_20_method_59_code, 1, (some .int), [])
def mN_max : zM := (⟨"java/lang/Math", "max", "(II)I"⟩, prog_20_method_65_code, 2, (some .int), [])
def mN_min : zM := (⟨"java/lang/Math", "min", "(II)I"⟩, prog_20_method_69_code, 2, (some .int), [])
def mP_add : zM := (⟨"PrefixCodeIndex$Program", "add", "(C)I"⟩, prog_6_method_2_code, 2, (some .int), [])
theorem mdP_add : zMd mP_add 1 := ⟨(zt5 (i := 108) rfl), (zt1 (i := 7) rfl), ⟨by decide +kernel, by decide +kernel, by decide +kernel⟩, by decide +kernel, by decide +kernel⟩
theorem miP_add : zMi mP_add := (zt5 (i := 106) rfl)
theorem mvP_add : zMv mP_add := (zt5 (i := 107) rfl)
def mP_clear : zM := (⟨"PrefixCodeIndex$Program", "clear", "()V"⟩, prog_6_method_3_code, 1, none, [])
theorem mdP_clear : zMd mP_clear 0 := ⟨(zt5 (i := 225) rfl), (zt1 (i := 7) rfl), ⟨by decide +kernel, by decide +kernel, by decide +kernel⟩, by decide +kernel, by decide +kernel⟩
theorem miP_clear : zMi mP_clear := (zt5 (i := 223) rfl)
theorem mvP_clear : zMv mP_clear := (zt5 (i := 224) rfl)
def mP_digitStands : zM := (⟨"PrefixCodeIndex$Program", "digitStands", "()Z"⟩, prog_6_method_15_code, 1, (some .boolean), [])
theorem mdP_digitStands : zMd mP_digitStands 0 := ⟨(zt5 (i := 213) rfl), (zt1 (i := 7) rfl), ⟨by decide +kernel, by decide +kernel, by decide +kernel⟩, by decide +kernel, by decide +kernel⟩
theorem miP_digitStands : zMi mP_digitStands := (zt5 (i := 212) rfl)
theorem mvP_digitStands : zMv mP_digitStands := (zt0 (i := 29) rfl)
def mP_init : zM := (⟨"PrefixCodeIndex$Program", "<init>", "()V"⟩, prog_6_method_1_code, 1, none, [])
theorem mdP_init : zMd mP_init 0 := ⟨(zt1 (i := 177) rfl), (zt1 (i := 7) rfl), ⟨by decide +kernel, by decide +kernel, by decide +kernel⟩, by decide +kernel, by decide +kernel⟩
theorem miP_init : zMi mP_init := (zt1 (i := 176) rfl)
def mP_matchedLetters : zM := (⟨"PrefixCodeIndex$Program", "matchedLetters", "(Ljava/lang/String;)I"⟩, prog_6_method_7_code, 3, (some .int), [])
theorem mdP_matchedLetters : zMd mP_matchedLetters 1 := ⟨(zt5 (i := 144) rfl), (zt1 (i := 7) rfl), ⟨by decide +kernel, by decide +kernel, by decide +kernel⟩, by decide +kernel, by decide +kernel⟩
theorem miP_matchedLetters : zMi mP_matchedLetters := (zt5 (i := 143) rfl)
theorem mvP_matchedLetters : zMv mP_matchedLetters := (zt0 (i := 24) rfl)
def mP_read : zM := (⟨"PrefixCodeIndex$Program", "read", "()I"⟩, prog_6_method_4_code, 1, (some .int), [])
theorem mdP_read : zMd mP_read 0 := ⟨(zt5 (i := 119) rfl), (zt1 (i := 7) rfl), ⟨by decide +kernel, by decide +kernel, by decide +kernel⟩, by decide +kernel, by decide +kernel⟩
theorem miP_read : zMi mP_read := (zt5 (i := 117) rfl)
theorem mvP_read : zMv mP_read := (zt5 (i := 118) rfl)
def mP_readArguments : zM := (⟨"PrefixCodeIndex$Program", "readArguments", "(I)Z"⟩, prog_6_method_9_code, 2, (some .boolean), [])
theorem mdP_readArguments : zMd mP_readArguments 1 := ⟨(zt5 (i := 197) rfl), (zt1 (i := 7) rfl), ⟨by decide +kernel, by decide +kernel, by decide +kernel⟩, by decide +kernel, by decide +kernel⟩
theorem miP_readArguments : zMi mP_readArguments := (zt5 (i := 196) rfl)
theorem mvP_readArguments : zMv mP_readArguments := (zt0 (i := 25) rfl)
def mP_readCommand : zM := (⟨"PrefixCodeIndex$Program", "readCommand", "()Z"⟩, prog_6_method_5_code, 2, (some .boolean), [])
theorem mdP_readCommand : zMd mP_readCommand 0 := ⟨(zt5 (i := 123) rfl), (zt1 (i := 7) rfl), ⟨by decide +kernel, by decide +kernel, by decide +kernel⟩, by decide +kernel, by decide +kernel⟩
theorem miP_readCommand : zMi mP_readCommand := (zt5 (i := 122) rfl)
theorem mvP_readCommand : zMv mP_readCommand := (zt0 (i := 22) rfl)
def mP_readFirst : zM := (⟨"PrefixCodeIndex$Program", "readFirst", "(I)Z"⟩, prog_6_method_10_code, 2, (some .boolean), [])
theorem mdP_readFirst : zMd mP_readFirst 1 := ⟨(zt5 (i := 201) rfl), (zt1 (i := 7) rfl), ⟨by decide +kernel, by decide +kernel, by decide +kernel⟩, by decide +kernel, by decide +kernel⟩
theorem miP_readFirst : zMi mP_readFirst := (zt5 (i := 200) rfl)
theorem mvP_readFirst : zMv mP_readFirst := (zt0 (i := 26) rfl)
def mP_readNumber : zM := (⟨"PrefixCodeIndex$Program", "readNumber", "(I)Z"⟩, prog_6_method_13_code, 2, (some .boolean), [])
theorem mdP_readNumber : zMd mP_readNumber 1 := ⟨(zt5 (i := 205) rfl), (zt1 (i := 7) rfl), ⟨by decide +kernel, by decide +kernel, by decide +kernel⟩, by decide +kernel, by decide +kernel⟩
theorem miP_readNumber : zMi mP_readNumber := (zt5 (i := 204) rfl)
theorem mvP_readNumber : zMv mP_readNumber := (zt0 (i := 27) rfl)
def mP_readPrefix : zM := (⟨"PrefixCodeIndex$Program", "readPrefix", "()Z"⟩, prog_6_method_12_code, 1, (some .boolean), [])
theorem mdP_readPrefix : zMd mP_readPrefix 0 := ⟨(zt5 (i := 221) rfl), (zt1 (i := 7) rfl), ⟨by decide +kernel, by decide +kernel, by decide +kernel⟩, by decide +kernel, by decide +kernel⟩
theorem miP_readPrefix : zMi mP_readPrefix := (zt5 (i := 220) rfl)
theorem mvP_readPrefix : zMv mP_readPrefix := (zt0 (i := 31) rfl)
def mP_readSecond : zM := (⟨"PrefixCodeIndex$Program", "readSecond", "()Z"⟩, prog_6_method_11_code, 1, (some .boolean), [])
theorem mdP_readSecond : zMd mP_readSecond 0 := ⟨(zt5 (i := 217) rfl), (zt1 (i := 7) rfl), ⟨by decide +kernel, by decide +kernel, by decide +kernel⟩, by decide +kernel, by decide +kernel⟩
theorem miP_readSecond : zMi mP_readSecond := (zt5 (i := 216) rfl)
theorem mvP_readSecond : zMv mP_readSecond := (zt0 (i := 30) rfl)
def mP_readWord : zM := (⟨"PrefixCodeIndex$Program", "readWord", "()I"⟩, prog_6_method_6_code, 5, (some .int), [])
theorem mdP_readWord : zMd mP_readWord 0 := ⟨(zt5 (i := 127) rfl), (zt1 (i := 7) rfl), ⟨by decide +kernel, by decide +kernel, by decide +kernel⟩, by decide +kernel, by decide +kernel⟩
theorem miP_readWord : zMi mP_readWord := (zt5 (i := 126) rfl)
theorem mvP_readWord : zMv mP_readWord := (zt0 (i := 23) rfl)
def mP_stands : zM := (⟨"PrefixCodeIndex$Program", "stands", "(C)Z"⟩, prog_6_method_14_code, 2, (some .boolean), [])
theorem mdP_stands : zMd mP_stands 1 := ⟨(zt5 (i := 209) rfl), (zt1 (i := 7) rfl), ⟨by decide +kernel, by decide +kernel, by decide +kernel⟩, by decide +kernel, by decide +kernel⟩
theorem miP_stands : zMi mP_stands := (zt5 (i := 208) rfl)
theorem mvP_stands : zMv mP_stands := (zt0 (i := 28) rfl)
def mP_wordOf : zM := (⟨"PrefixCodeIndex$Program", "wordOf", "(I)Ljava/lang/String;"⟩, prog_6_method_8_code, 1, (some (.object "java/lang/String")), [])
theorem mdP_wordOf : zMd mP_wordOf 1 := ⟨(zt5 (i := 130) rfl), (zt1 (i := 7) rfl), ⟨by decide +kernel, by decide +kernel, by decide +kernel⟩, by decide +kernel, by decide +kernel⟩
theorem msP_wordOf : zMs mP_wordOf := (zt5 (i := 129) rfl)
def mQ_charAt : zM := (⟨"java/lang/StringLatin1", "charAt", "([BI)C"⟩, prog_23_method_2_code, 2, (some .char), [])
theorem mdQ_charAt : zMd mQ_charAt 2 := ⟨(zt5 (i := 165) rfl), (zt1 (i := 23) rfl), ⟨by decide +kernel, by decide +kernel, by decide +kernel⟩, by decide +kernel, by decide +kernel⟩
theorem msQ_charAt : zMs mQ_charAt := (zt5 (i := 164) rfl)
def mR_init : zM := (⟨"PrefixCodeIndex$Ranking", "<init>", "()V"⟩, prog_7_method_1_code, 1, none, [])
theorem mdR_init : zMd mR_init 0 := ⟨(zt1 (i := 158) rfl), (zt1 (i := 6) rfl), ⟨by decide +kernel, by decide +kernel, by decide +kernel⟩, by decide +kernel, by decide +kernel⟩
theorem miR_init : zMi mR_init := (zt1 (i := 157) rfl)
def mR_order : zM := (⟨"PrefixCodeIndex$Ranking", "order", "(LPrefixCodeIndex$Contents;II)V"⟩, prog_7_method_2_code, 6, none, [])
theorem mdR_order : zMd mR_order 3 := ⟨(zt4 (i := 141) rfl), (zt1 (i := 6) rfl), ⟨by decide +kernel, by decide +kernel, by decide +kernel⟩, by decide +kernel, by decide +kernel⟩
theorem miR_order : zMi mR_order := (zt4 (i := 139) rfl)
theorem mvR_order : zMv mR_order := (zt4 (i := 140) rfl)
def mR_place : zM := (⟨"PrefixCodeIndex$Ranking", "place", "(II)V"⟩, prog_7_method_3_code, 4, none, [])
theorem mdR_place : zMd mR_place 2 := ⟨(zt4 (i := 151) rfl), (zt1 (i := 6) rfl), ⟨by decide +kernel, by decide +kernel, by decide +kernel⟩, by decide +kernel, by decide +kernel⟩
theorem miR_place : zMi mR_place := (zt4 (i := 150) rfl)
theorem mvR_place : zMv mR_place := (zt0 (i := 21) rfl)
def mS_charAt : zM := (⟨"java/lang/String", "charAt", "(I)C"⟩, prog_22_method_56_code, 2, (some .char), [])
theorem mdS_charAt : zMd mS_charAt 1 := ⟨(zt5 (i := 158) rfl), (zt1 (i := 20) rfl), ⟨by decide +kernel, by decide +kernel, by decide +kernel⟩, by decide +kernel, by decide +kernel⟩
theorem miS_charAt : zMi mS_charAt := (zt5 (i := 156) rfl)
theorem mvS_charAt : zMv mS_charAt := (zt5 (i := 157) rfl)
def mS_checkIndex : zM := (⟨"java/lang/String", "checkIndex", "(II)V"⟩, prog_22_method_155_code, 2, none, [])
theorem mdS_checkIndex : zMd mS_checkIndex 2 := ⟨(zt5 (i := 168) rfl), (zt1 (i := 20) rfl), ⟨by decide +kernel, by decide +kernel, by decide +kernel⟩, by decide +kernel, by decide +kernel⟩
theorem msS_checkIndex : zMs mS_checkIndex := (zt5 (i := 167) rfl)
def mS_coder : zM := (⟨"java/lang/String", "coder", "()B"⟩, prog_22_method_152_code, 1, (some .byte), [])
theorem mdS_coder : zMd mS_coder 0 := ⟨(zt5 (i := 152) rfl), (zt1 (i := 20) rfl), ⟨by decide +kernel, by decide +kernel, by decide +kernel⟩, by decide +kernel, by decide +kernel⟩
theorem miS_coder : zMi mS_coder := (zt5 (i := 150) rfl)
theorem mvS_coder : zMv mS_coder := (zt5 (i := 151) rfl)
def mS_isLatin1 : zM := (⟨"java/lang/String", "isLatin1", "()Z"⟩, prog_22_method_154_code, 1, (some .boolean), [])
theorem mdS_isLatin1 : zMd mS_isLatin1 0 := ⟨(zt5 (i := 162) rfl), (zt1 (i := 20) rfl), ⟨by decide +kernel, by decide +kernel, by decide +kernel⟩, by decide +kernel, by decide +kernel⟩
theorem miS_isLatin1 : zMi mS_isLatin1 := (zt5 (i := 160) rfl)
theorem mvS_isLatin1 : zMv mS_isLatin1 := (zt5 (i := 161) rfl)
def mS_length : zM := (⟨"java/lang/String", "length", "()I"⟩, prog_22_method_54_code, 1, (some .int), [])
theorem mdS_length : zMd mS_length 0 := ⟨(zt5 (i := 148) rfl), (zt1 (i := 20) rfl), ⟨by decide +kernel, by decide +kernel, by decide +kernel⟩, by decide +kernel, by decide +kernel⟩
theorem miS_length : zMi mS_length := (zt5 (i := 146) rfl)
theorem mvS_length : zMv mS_length := (zt5 (i := 147) rfl)
def mT_branchesAt : zM := (⟨"PrefixCodeIndex$Trie", "branchesAt", "(I)I"⟩, prog_8_method_7_code, 4, (some .int), [])
theorem mdT_branchesAt : zMd mT_branchesAt 1 := ⟨(zt4 (i := 180) rfl), (zt1 (i := 5) rfl), ⟨by decide +kernel, by decide +kernel, by decide +kernel⟩, by decide +kernel, by decide +kernel⟩
theorem miT_branchesAt : zMi mT_branchesAt := (zt4 (i := 178) rfl)
theorem mvT_branchesAt : zMv mT_branchesAt := (zt4 (i := 179) rfl)
def mT_build : zM := (⟨"PrefixCodeIndex$Trie", "build", "(LPrefixCodeIndex$Contents;)V"⟩, prog_8_method_10_code, 6, none, [])
theorem mdT_build : zMd mT_build 1 := ⟨(zt2 (i := 153) rfl), (zt1 (i := 5) rfl), ⟨by decide +kernel, by decide +kernel, by decide +kernel⟩, by decide +kernel, by decide +kernel⟩
theorem miT_build : zMi mT_build := (zt2 (i := 151) rfl)
theorem mvT_build : zMv mT_build := (zt2 (i := 152) rfl)
def mT_child : zM := (⟨"PrefixCodeIndex$Trie", "child", "(II)I"⟩, prog_8_method_4_code, 2, (some .int), [])
theorem mdT_child : zMd mT_child 2 := ⟨(zt2 (i := 173) rfl), (zt1 (i := 5) rfl), ⟨by decide +kernel, by decide +kernel, by decide +kernel⟩, by decide +kernel, by decide +kernel⟩
theorem msT_child : zMs mT_child := (zt2 (i := 172) rfl)
def mT_codesAt : zM := (⟨"PrefixCodeIndex$Trie", "codesAt", "(I)I"⟩, prog_8_method_6_code, 2, (some .int), [])
theorem mdT_codesAt : zMd mT_codesAt 1 := ⟨(zt2 (i := 211) rfl), (zt1 (i := 5) rfl), ⟨by decide +kernel, by decide +kernel, by decide +kernel⟩, by decide +kernel, by decide +kernel⟩
theorem miT_codesAt : zMi mT_codesAt := (zt2 (i := 209) rfl)
theorem mvT_codesAt : zMv mT_codesAt := (zt2 (i := 210) rfl)
def mT_commonestLeaf : zM := (⟨"PrefixCodeIndex$Trie", "commonestLeaf", "()I"⟩, prog_8_method_9_code, 4, (some .int), [])
theorem mdT_commonestLeaf : zMd mT_commonestLeaf 0 := ⟨(zt4 (i := 219) rfl), (zt1 (i := 5) rfl), ⟨by decide +kernel, by decide +kernel, by decide +kernel⟩, by decide +kernel, by decide +kernel⟩
theorem miT_commonestLeaf : zMi mT_commonestLeaf := (zt4 (i := 217) rfl)
theorem mvT_commonestLeaf : zMv mT_commonestLeaf := (zt4 (i := 218) rfl)
def mT_countCode : zM := (⟨"PrefixCodeIndex$Trie", "countCode", "(II)V"⟩, prog_8_method_11_code, 6, none, [])
theorem mdT_countCode : zMd mT_countCode 2 := ⟨(zt2 (i := 163) rfl), (zt1 (i := 5) rfl), ⟨by decide +kernel, by decide +kernel, by decide +kernel⟩, by decide +kernel, by decide +kernel⟩
theorem miT_countCode : zMi mT_countCode := (zt2 (i := 162) rfl)
theorem mvT_countCode : zMv mT_countCode := (zt0 (i := 3) rfl)
def mT_depthReachedBy : zM := (⟨"PrefixCodeIndex$Trie", "depthReachedBy", "(I)I"⟩, prog_8_method_8_code, 4, (some .int), [])
theorem mdT_depthReachedBy : zMd mT_depthReachedBy 1 := ⟨(zt2 (i := 207) rfl), (zt1 (i := 5) rfl), ⟨by decide +kernel, by decide +kernel, by decide +kernel⟩, by decide +kernel, by decide +kernel⟩
theorem miT_depthReachedBy : zMi mT_depthReachedBy := (zt2 (i := 205) rfl)
theorem mvT_depthReachedBy : zMv mT_depthReachedBy := (zt2 (i := 206) rfl)
def mT_digitAt : zM := (⟨"PrefixCodeIndex$Trie", "digitAt", "(II)I"⟩, prog_8_method_3_code, 2, (some .int), [])
theorem mdT_digitAt : zMd mT_digitAt 2 := ⟨(zt2 (i := 170) rfl), (zt1 (i := 5) rfl), ⟨by decide +kernel, by decide +kernel, by decide +kernel⟩, by decide +kernel, by decide +kernel⟩
theorem msT_digitAt : zMs mT_digitAt := (zt2 (i := 169) rfl)
def mT_entriesAt : zM := (⟨"PrefixCodeIndex$Trie", "entriesAt", "(I)I"⟩, prog_8_method_5_code, 2, (some .int), [])
theorem mdT_entriesAt : zMd mT_entriesAt 1 := ⟨(zt2 (i := 167) rfl), (zt1 (i := 5) rfl), ⟨by decide +kernel, by decide +kernel, by decide +kernel⟩, by decide +kernel, by decide +kernel⟩
theorem miT_entriesAt : zMi mT_entriesAt := (zt2 (i := 165) rfl)
theorem mvT_entriesAt : zMv mT_entriesAt := (zt2 (i := 166) rfl)
def mT_init : zM := (⟨"PrefixCodeIndex$Trie", "<init>", "()V"⟩, prog_8_method_1_code, 1, none, [])
theorem mdT_init : zMd mT_init 0 := ⟨(zt1 (i := 145) rfl), (zt1 (i := 5) rfl), ⟨by decide +kernel, by decide +kernel, by decide +kernel⟩, by decide +kernel, by decide +kernel⟩
theorem miT_init : zMi mT_init := (zt1 (i := 144) rfl)
def mT_nodeOf : zM := (⟨"PrefixCodeIndex$Trie", "nodeOf", "(II)I"⟩, prog_8_method_2_code, 4, (some .int), [])
theorem mdT_nodeOf : zMd mT_nodeOf 2 := ⟨(zt2 (i := 176) rfl), (zt1 (i := 5) rfl), ⟨by decide +kernel, by decide +kernel, by decide +kernel⟩, by decide +kernel, by decide +kernel⟩
theorem msT_nodeOf : zMs mT_nodeOf := (zt2 (i := 175) rfl)
def mW_addCode : zM := (⟨"PrefixCodeIndexLaw", "addCode", "(LPrefixCodeIndex;II[J)I"⟩, method_4_code, 5, (some .int), [(0, 10, 13, 21), (0, 10, 17, 13), (0, 10, 21, 15)])
theorem mdW_addCode : zMd mW_addCode 4 := ⟨(zt3 (i := 200) rfl), (zt1 (i := 0) rfl), ⟨by decide +kernel, by decide +kernel, by decide +kernel⟩, by decide +kernel, by decide +kernel⟩
theorem msW_addCode : zMs mW_addCode := (zt3 (i := 199) rfl)
def mW_addEntry : zM := (⟨"PrefixCodeIndexLaw", "addEntry", "(LPrefixCodeIndex;I[J)I"⟩, method_3_code, 4, (some .int), [(0, 9, 12, 13), (0, 9, 15, 15)])
theorem mdW_addEntry : zMd mW_addEntry 3 := ⟨(zt3 (i := 54) rfl), (zt1 (i := 0) rfl), ⟨by decide +kernel, by decide +kernel, by decide +kernel⟩, by decide +kernel, by decide +kernel⟩
theorem msW_addEntry : zMs mW_addEntry := (zt3 (i := 53) rfl)
def mW_ageOf : zM := (⟨"PrefixCodeIndexLaw", "ageOf", "(LPrefixCodeIndex;I[J)I"⟩, method_15_code, 4, (some .int), [(0, 9, 12, 21)])
theorem mdW_ageOf : zMd mW_ageOf 3 := ⟨(zt4 (i := 60) rfl), (zt1 (i := 0) rfl), ⟨by decide +kernel, by decide +kernel, by decide +kernel⟩, by decide +kernel, by decide +kernel⟩
theorem msW_ageOf : zMs mW_ageOf := (zt4 (i := 59) rfl)
def mW_append : zM := (⟨"PrefixCodeIndexLaw", "append", "(LPrefixCodeIndex;C[J)I"⟩, method_45_code, 4, (some .int), [(0, 9, 12, 13), (0, 9, 15, 15)])
theorem mdW_append : zMd mW_append 3 := ⟨(zt5 (i := 98) rfl), (zt1 (i := 0) rfl), ⟨by decide +kernel, by decide +kernel, by decide +kernel⟩, by decide +kernel, by decide +kernel⟩
theorem msW_append : zMs mW_append := (zt5 (i := 97) rfl)
def mW_codeAfter : zM := (⟨"PrefixCodeIndexLaw", "codeAfter", "(LPrefixCodeIndex;I[J)I"⟩, method_33_code, 4, (some .int), [(0, 9, 12, 13), (0, 9, 15, 21)])
theorem mdW_codeAfter : zMd mW_codeAfter 3 := ⟨(zt4 (i := 198) rfl), (zt1 (i := 0) rfl), ⟨by decide +kernel, by decide +kernel, by decide +kernel⟩, by decide +kernel, by decide +kernel⟩
theorem msW_codeAfter : zMs mW_codeAfter := (zt4 (i := 197) rfl)
def mW_codeAt : zM := (⟨"PrefixCodeIndexLaw", "codeAt", "(LPrefixCodeIndex;II[J)I"⟩, method_20_code, 5, (some .int), [(0, 10, 13, 21), (0, 10, 17, 42)])
theorem mdW_codeAt : zMd mW_codeAt 4 := ⟨(zt4 (i := 96) rfl), (zt1 (i := 0) rfl), ⟨by decide +kernel, by decide +kernel, by decide +kernel⟩, by decide +kernel, by decide +kernel⟩
theorem msW_codeAt : zMs mW_codeAt := (zt4 (i := 95) rfl)
def mW_codeCount : zM := (⟨"PrefixCodeIndexLaw", "codeCount", "(LPrefixCodeIndex;I[J)I"⟩, method_19_code, 4, (some .int), [(0, 9, 12, 21)])
theorem mdW_codeCount : zMd mW_codeCount 3 := ⟨(zt4 (i := 89) rfl), (zt1 (i := 0) rfl), ⟨by decide +kernel, by decide +kernel, by decide +kernel⟩, by decide +kernel, by decide +kernel⟩
theorem msW_codeCount : zMs mW_codeCount := (zt4 (i := 88) rfl)
def mW_codesWith : zM := (⟨"PrefixCodeIndexLaw", "codesWith", "(LPrefixCodeIndex;II[J)I"⟩, method_28_code, 5, (some .int), [(0, 10, 13, 13)])
theorem mdW_codesWith : zMd mW_codesWith 4 := ⟨(zt4 (i := 163) rfl), (zt1 (i := 0) rfl), ⟨by decide +kernel, by decide +kernel, by decide +kernel⟩, by decide +kernel, by decide +kernel⟩
theorem msW_codesWith : zMs mW_codesWith := (zt4 (i := 162) rfl)
def mW_commonestCode : zM := (⟨"PrefixCodeIndexLaw", "commonestCode", "(LPrefixCodeIndex;[J)I"⟩, method_34_code, 3, (some .int), [(0, 8, 11, 21)])
theorem mdW_commonestCode : zMd mW_commonestCode 2 := ⟨(zt4 (i := 211) rfl), (zt1 (i := 0) rfl), ⟨by decide +kernel, by decide +kernel, by decide +kernel⟩, by decide +kernel, by decide +kernel⟩
theorem msW_commonestCode : zMs mW_commonestCode := (zt4 (i := 210) rfl)
def mW_daysUntilFaded : zM := (⟨"PrefixCodeIndexLaw", "daysUntilFaded", "(LPrefixCodeIndex;I[J)I"⟩, method_37_code, 4, (some .int), [(0, 9, 12, 21)])
theorem mdW_daysUntilFaded : zMd mW_daysUntilFaded 3 := ⟨(zt4 (i := 239) rfl), (zt1 (i := 0) rfl), ⟨by decide +kernel, by decide +kernel, by decide +kernel⟩, by decide +kernel, by decide +kernel⟩
theorem msW_daysUntilFaded : zMs mW_daysUntilFaded := (zt4 (i := 238) rfl)
def mW_daysUntilFadedByDays : zM := (⟨"PrefixCodeIndexLaw", "daysUntilFadedByDays", "(LPrefixCodeIndex;I[J)I"⟩, method_38_code, 4, (some .int), [(0, 9, 12, 21)])
theorem mdW_daysUntilFadedByDays : zMd mW_daysUntilFadedByDays 3 := ⟨(zt5 (i := 3) rfl), (zt1 (i := 0) rfl), ⟨by decide +kernel, by decide +kernel, by decide +kernel⟩, by decide +kernel, by decide +kernel⟩
theorem msW_daysUntilFadedByDays : zMs mW_daysUntilFadedByDays := (zt5 (i := 2) rfl)
def mW_entriesIn : zM := (⟨"PrefixCodeIndexLaw", "entriesIn", "(LPrefixCodeIndex;I[J)I"⟩, method_23_code, 4, (some .int), [(0, 9, 12, 42)])
theorem mdW_entriesIn : zMd mW_entriesIn 3 := ⟨(zt4 (i := 118) rfl), (zt1 (i := 0) rfl), ⟨by decide +kernel, by decide +kernel, by decide +kernel⟩, by decide +kernel, by decide +kernel⟩
theorem msW_entriesIn : zMs mW_entriesIn := (zt4 (i := 117) rfl)
def mW_entriesWith : zM := (⟨"PrefixCodeIndexLaw", "entriesWith", "(LPrefixCodeIndex;I[J)I"⟩, method_32_code, 4, (some .int), [(0, 9, 12, 13)])
theorem mdW_entriesWith : zMd mW_entriesWith 3 := ⟨(zt4 (i := 191) rfl), (zt1 (i := 0) rfl), ⟨by decide +kernel, by decide +kernel, by decide +kernel⟩, by decide +kernel, by decide +kernel⟩
theorem msW_entriesWith : zMs mW_entriesWith := (zt4 (i := 190) rfl)
def mW_errorPosition : zM := (⟨"PrefixCodeIndexLaw", "errorPosition", "(LPrefixCodeIndex;[J)I"⟩, method_47_code, 3, (some .int), [(0, 8, 11, 21)])
theorem mdW_errorPosition : zMd mW_errorPosition 2 := ⟨(zt5 (i := 238) rfl), (zt1 (i := 0) rfl), ⟨by decide +kernel, by decide +kernel, by decide +kernel⟩, by decide +kernel, by decide +kernel⟩
theorem msW_errorPosition : zMs mW_errorPosition := (zt5 (i := 237) rfl)
def mW_fadedShare : zM := (⟨"PrefixCodeIndexLaw", "fadedShare", "(LPrefixCodeIndex;[D)I"⟩, method_41_code, 3, (some .int), [(0, 8, 11, 138)])
theorem mdW_fadedShare : zMd mW_fadedShare 2 := ⟨(zt5 (i := 39) rfl), (zt1 (i := 0) rfl), ⟨by decide +kernel, by decide +kernel, by decide +kernel⟩, by decide +kernel, by decide +kernel⟩
theorem msW_fadedShare : zMs mW_fadedShare := (zt5 (i := 38) rfl)
def mW_fadingWithin : zM := (⟨"PrefixCodeIndexLaw", "fadingWithin", "(LPrefixCodeIndex;I[J)I"⟩, method_39_code, 4, (some .int), [(0, 9, 12, 13)])
theorem mdW_fadingWithin : zMd mW_fadingWithin 3 := ⟨(zt5 (i := 7) rfl), (zt1 (i := 0) rfl), ⟨by decide +kernel, by decide +kernel, by decide +kernel⟩, by decide +kernel, by decide +kernel⟩
theorem msW_fadingWithin : zMs mW_fadingWithin := (zt5 (i := 6) rfl)
def mW_failedCommand : zM := (⟨"PrefixCodeIndexLaw", "failedCommand", "(LPrefixCodeIndex;[J)I"⟩, method_48_code, 3, (some .int), [(0, 8, 11, 21)])
theorem mdW_failedCommand : zMd mW_failedCommand 2 := ⟨(zt6 (i := 6) rfl), (zt1 (i := 0) rfl), ⟨by decide +kernel, by decide +kernel, by decide +kernel⟩, by decide +kernel, by decide +kernel⟩
theorem msW_failedCommand : zMs mW_failedCommand := (zt6 (i := 5) rfl)
def mW_formatEntry : zM := (⟨"PrefixCodeIndexLaw", "formatEntry", "(LPrefixCodeIndex;I[J)I"⟩, method_42_code, 4, (some .int), [(0, 9, 12, 21)])
theorem mdW_formatEntry : zMd mW_formatEntry 3 := ⟨(zt5 (i := 47) rfl), (zt1 (i := 0) rfl), ⟨by decide +kernel, by decide +kernel, by decide +kernel⟩, by decide +kernel, by decide +kernel⟩
theorem msW_formatEntry : zMs mW_formatEntry := (zt5 (i := 46) rfl)
def mW_formatResults : zM := (⟨"PrefixCodeIndexLaw", "formatResults", "(LPrefixCodeIndex;II[J)I"⟩, method_43_code, 5, (some .int), [(0, 10, 13, 13)])
theorem mdW_formatResults : zMd mW_formatResults 4 := ⟨(zt5 (i := 82) rfl), (zt1 (i := 0) rfl), ⟨by decide +kernel, by decide +kernel, by decide +kernel⟩, by decide +kernel, by decide +kernel⟩
theorem msW_formatResults : zMs mW_formatResults := (zt5 (i := 81) rfl)
def mW_hasCode : zM := (⟨"PrefixCodeIndexLaw", "hasCode", "(LPrefixCodeIndex;II[J)I"⟩, method_21_code, 5, (some .int), [(0, 17, 20, 21), (0, 17, 24, 13)])
theorem mdW_hasCode : zMd mW_hasCode 4 := ⟨(zt4 (i := 103) rfl), (zt1 (i := 0) rfl), ⟨by decide +kernel, by decide +kernel, by decide +kernel⟩, by decide +kernel, by decide +kernel⟩
theorem msW_hasCode : zMs mW_hasCode := (zt4 (i := 102) rfl)
def mW_hitsOf : zM := (⟨"PrefixCodeIndexLaw", "hitsOf", "(LPrefixCodeIndex;I[J)I"⟩, method_16_code, 4, (some .int), [(0, 9, 12, 21)])
theorem mdW_hitsOf : zMd mW_hitsOf 3 := ⟨(zt4 (i := 67) rfl), (zt1 (i := 0) rfl), ⟨by decide +kernel, by decide +kernel, by decide +kernel⟩, by decide +kernel, by decide +kernel⟩
theorem msW_hitsOf : zMs mW_hitsOf := (zt4 (i := 66) rfl)
def mW_idAt : zM := (⟨"PrefixCodeIndexLaw", "idAt", "(LPrefixCodeIndex;I[J)I"⟩, method_13_code, 4, (some .int), [(0, 9, 12, 42)])
theorem mdW_idAt : zMd mW_idAt 3 := ⟨(zt4 (i := 45) rfl), (zt1 (i := 0) rfl), ⟨by decide +kernel, by decide +kernel, by decide +kernel⟩, by decide +kernel, by decide +kernel⟩
theorem msW_idAt : zMs mW_idAt := (zt4 (i := 44) rfl)
def mW_joinSegments : zM := (⟨"PrefixCodeIndexLaw", "joinSegments", "(LPrefixCodeIndex;I[J)I"⟩, method_10_code, 4, (some .int), [(0, 9, 12, 42), (0, 9, 15, 15)])
theorem mdW_joinSegments : zMd mW_joinSegments 3 := ⟨(zt4 (i := 3) rfl), (zt1 (i := 0) rfl), ⟨by decide +kernel, by decide +kernel, by decide +kernel⟩, by decide +kernel, by decide +kernel⟩
theorem msW_joinSegments : zMs mW_joinSegments := (zt4 (i := 2) rfl)
def mW_law : zM := (⟨"PrefixCodeIndexLaw", "law", "([I)Z"⟩, code, 9, (some .boolean), [])
def mW_lifetimeOf : zM := (⟨"PrefixCodeIndexLaw", "lifetimeOf", "(LPrefixCodeIndex;I[J)I"⟩, method_17_code, 4, (some .int), [(0, 9, 12, 21)])
theorem mdW_lifetimeOf : zMd mW_lifetimeOf 3 := ⟨(zt4 (i := 74) rfl), (zt1 (i := 0) rfl), ⟨by decide +kernel, by decide +kernel, by decide +kernel⟩, by decide +kernel, by decide +kernel⟩
theorem msW_lifetimeOf : zMs mW_lifetimeOf := (zt4 (i := 73) rfl)
def mW_lineChar : zM := (⟨"PrefixCodeIndexLaw", "lineChar", "(LPrefixCodeIndex;I[J)I"⟩, method_44_code, 4, (some .int), [(0, 9, 12, 42)])
theorem mdW_lineChar : zMd mW_lineChar 3 := ⟨(zt5 (i := 90) rfl), (zt1 (i := 0) rfl), ⟨by decide +kernel, by decide +kernel, by decide +kernel⟩, by decide +kernel, by decide +kernel⟩
theorem msW_lineChar : zMs mW_lineChar := (zt5 (i := 89) rfl)
def mW_matches : zM := (⟨"PrefixCodeIndexLaw", "matches", "(LPrefixCodeIndex;III[J)I"⟩, method_22_code, 6, (some .int), [(0, 19, 22, 21), (0, 19, 26, 13)])
theorem mdW_matches : zMd mW_matches 5 := ⟨(zt4 (i := 111) rfl), (zt1 (i := 0) rfl), ⟨by decide +kernel, by decide +kernel, by decide +kernel⟩, by decide +kernel, by decide +kernel⟩
theorem msW_matches : zMs mW_matches := (zt4 (i := 110) rfl)
def mW_meanCodes : zM := (⟨"PrefixCodeIndexLaw", "meanCodes", "(LPrefixCodeIndex;[D)I"⟩, method_40_code, 3, (some .int), [(0, 7, 10, 138)])
theorem mdW_meanCodes : zMd mW_meanCodes 2 := ⟨(zt5 (i := 15) rfl), (zt1 (i := 0) rfl), ⟨by decide +kernel, by decide +kernel, by decide +kernel⟩, by decide +kernel, by decide +kernel⟩
theorem msW_meanCodes : zMs mW_meanCodes := (zt5 (i := 14) rfl)
def mW_merge : zM := (⟨"PrefixCodeIndexLaw", "merge", "(LPrefixCodeIndex;II[J)I"⟩, method_8_code, 5, (some .int), [(0, 10, 13, 21), (0, 10, 17, 13), (0, 10, 21, 15)])
theorem mdW_merge : zMd mW_merge 4 := ⟨(zt3 (i := 229) rfl), (zt1 (i := 0) rfl), ⟨by decide +kernel, by decide +kernel, by decide +kernel⟩, by decide +kernel, by decide +kernel⟩
theorem msW_merge : zMs mW_merge := (zt3 (i := 228) rfl)
def mW_mostSimilar : zM := (⟨"PrefixCodeIndexLaw", "mostSimilar", "(LPrefixCodeIndex;I[J)I"⟩, method_36_code, 4, (some .int), [(0, 9, 12, 21)])
theorem mdW_mostSimilar : zMd mW_mostSimilar 3 := ⟨(zt4 (i := 231) rfl), (zt1 (i := 0) rfl), ⟨by decide +kernel, by decide +kernel, by decide +kernel⟩, by decide +kernel, by decide +kernel⟩
theorem msW_mostSimilar : zMs mW_mostSimilar := (zt4 (i := 230) rfl)
def mW_nextDigits : zM := (⟨"PrefixCodeIndexLaw", "nextDigits", "(LPrefixCodeIndex;II[J)I"⟩, method_29_code, 5, (some .int), [(0, 10, 13, 13)])
theorem mdW_nextDigits : zMd mW_nextDigits 4 := ⟨(zt4 (i := 171) rfl), (zt1 (i := 0) rfl), ⟨by decide +kernel, by decide +kernel, by decide +kernel⟩, by decide +kernel, by decide +kernel⟩
theorem msW_nextDigits : zMs mW_nextDigits := (zt4 (i := 170) rfl)
def mW_pass : zM := (⟨"PrefixCodeIndexLaw", "pass", "(LPrefixCodeIndex;I[J)I"⟩, method_12_code, 4, (some .int), [(0, 9, 12, 13)])
theorem mdW_pass : zMd mW_pass 3 := ⟨(zt4 (i := 38) rfl), (zt1 (i := 0) rfl), ⟨by decide +kernel, by decide +kernel, by decide +kernel⟩, by decide +kernel, by decide +kernel⟩
theorem msW_pass : zMs mW_pass := (zt4 (i := 37) rfl)
def mW_removeCode : zM := (⟨"PrefixCodeIndexLaw", "removeCode", "(LPrefixCodeIndex;II[J)I"⟩, method_5_code, 5, (some .int), [(0, 10, 13, 21), (0, 10, 17, 13), (0, 10, 21, 15)])
theorem mdW_removeCode : zMd mW_removeCode 4 := ⟨(zt3 (i := 208) rfl), (zt1 (i := 0) rfl), ⟨by decide +kernel, by decide +kernel, by decide +kernel⟩, by decide +kernel, by decide +kernel⟩
theorem msW_removeCode : zMs mW_removeCode := (zt3 (i := 207) rfl)
def mW_removeEntry : zM := (⟨"PrefixCodeIndexLaw", "removeEntry", "(LPrefixCodeIndex;I[J)I"⟩, method_6_code, 4, (some .int), [(0, 9, 12, 21)])
theorem mdW_removeEntry : zMd mW_removeEntry 3 := ⟨(zt3 (i := 215) rfl), (zt1 (i := 0) rfl), ⟨by decide +kernel, by decide +kernel, by decide +kernel⟩, by decide +kernel, by decide +kernel⟩
theorem msW_removeEntry : zMs mW_removeEntry := (zt3 (i := 214) rfl)
def mW_restore : zM := (⟨"PrefixCodeIndexLaw", "restore", "(LPrefixCodeIndex;[J)I"⟩, method_50_code, 3, (some .int), [(0, 8, 11, 15)])
theorem mdW_restore : zMd mW_restore 2 := ⟨(zt6 (i := 26) rfl), (zt1 (i := 0) rfl), ⟨by decide +kernel, by decide +kernel, by decide +kernel⟩, by decide +kernel, by decide +kernel⟩
theorem msW_restore : zMs mW_restore := (zt6 (i := 25) rfl)
def mW_resultAt : zM := (⟨"PrefixCodeIndexLaw", "resultAt", "(LPrefixCodeIndex;III[J)I"⟩, method_26_code, 6, (some .int), [(0, 12, 15, 13), (0, 12, 19, 21)])
theorem mdW_resultAt : zMd mW_resultAt 5 := ⟨(zt4 (i := 133) rfl), (zt1 (i := 0) rfl), ⟨by decide +kernel, by decide +kernel, by decide +kernel⟩, by decide +kernel, by decide +kernel⟩
theorem msW_resultAt : zMs mW_resultAt := (zt4 (i := 132) rfl)
def mW_resultCount : zM := (⟨"PrefixCodeIndexLaw", "resultCount", "(LPrefixCodeIndex;II[J)I"⟩, method_24_code, 5, (some .int), [(0, 10, 13, 13)])
theorem mdW_resultCount : zMd mW_resultCount 4 := ⟨(zt4 (i := 125) rfl), (zt1 (i := 0) rfl), ⟨by decide +kernel, by decide +kernel, by decide +kernel⟩, by decide +kernel, by decide +kernel⟩
theorem msW_resultCount : zMs mW_resultCount := (zt4 (i := 124) rfl)
def mW_resultCountByScan : zM := (⟨"PrefixCodeIndexLaw", "resultCountByScan", "(LPrefixCodeIndex;II[J)I"⟩, method_25_code, 5, (some .int), [(0, 10, 13, 13)])
theorem mdW_resultCountByScan : zMd mW_resultCountByScan 4 := ⟨(zt4 (i := 129) rfl), (zt1 (i := 0) rfl), ⟨by decide +kernel, by decide +kernel, by decide +kernel⟩, by decide +kernel, by decide +kernel⟩
theorem msW_resultCountByScan : zMs mW_resultCountByScan := (zt4 (i := 128) rfl)
def mW_run : zM := (⟨"PrefixCodeIndexLaw", "run", "(LPrefixCodeIndex;[J)I"⟩, method_46_code, 3, (some .int), [(0, 8, 11, 13), (0, 8, 14, 15)])
theorem mdW_run : zMd mW_run 2 := ⟨(zt5 (i := 111) rfl), (zt1 (i := 0) rfl), ⟨by decide +kernel, by decide +kernel, by decide +kernel⟩, by decide +kernel, by decide +kernel⟩
theorem msW_run : zMs mW_run := (zt5 (i := 110) rfl)
def mW_scoreOf : zM := (⟨"PrefixCodeIndexLaw", "scoreOf", "(LPrefixCodeIndex;III[J)I"⟩, method_27_code, 6, (some .int), [(0, 12, 15, 21), (0, 12, 19, 13)])
theorem mdW_scoreOf : zMd mW_scoreOf 5 := ⟨(zt4 (i := 155) rfl), (zt1 (i := 0) rfl), ⟨by decide +kernel, by decide +kernel, by decide +kernel⟩, by decide +kernel, by decide +kernel⟩
theorem msW_scoreOf : zMs mW_scoreOf := (zt4 (i := 154) rfl)
def mW_search : zM := (⟨"PrefixCodeIndexLaw", "search", "(LPrefixCodeIndex;II[J)I"⟩, method_11_code, 5, (some .int), [(0, 10, 13, 13)])
theorem mdW_search : zMd mW_search 4 := ⟨(zt4 (i := 31) rfl), (zt1 (i := 0) rfl), ⟨by decide +kernel, by decide +kernel, by decide +kernel⟩, by decide +kernel, by decide +kernel⟩
theorem msW_search : zMs mW_search := (zt4 (i := 30) rfl)
def mW_segmentOf : zM := (⟨"PrefixCodeIndexLaw", "segmentOf", "(LPrefixCodeIndex;I[J)I"⟩, method_18_code, 4, (some .int), [(0, 9, 12, 21)])
theorem mdW_segmentOf : zMd mW_segmentOf 3 := ⟨(zt4 (i := 82) rfl), (zt1 (i := 0) rfl), ⟨by decide +kernel, by decide +kernel, by decide +kernel⟩, by decide +kernel, by decide +kernel⟩
theorem msW_segmentOf : zMs mW_segmentOf := (zt4 (i := 81) rfl)
def mW_sharedCodes : zM := (⟨"PrefixCodeIndexLaw", "sharedCodes", "(LPrefixCodeIndex;II[J)I"⟩, method_35_code, 5, (some .int), [(0, 10, 13, 21)])
theorem mdW_sharedCodes : zMd mW_sharedCodes 4 := ⟨(zt4 (i := 223) rfl), (zt1 (i := 0) rfl), ⟨by decide +kernel, by decide +kernel, by decide +kernel⟩, by decide +kernel, by decide +kernel⟩
theorem msW_sharedCodes : zMs mW_sharedCodes := (zt4 (i := 222) rfl)
def mW_sharedDigits : zM := (⟨"PrefixCodeIndexLaw", "sharedDigits", "(LPrefixCodeIndex;I[J)I"⟩, method_30_code, 4, (some .int), [(0, 9, 12, 13)])
theorem mdW_sharedDigits : zMd mW_sharedDigits 3 := ⟨(zt4 (i := 183) rfl), (zt1 (i := 0) rfl), ⟨by decide +kernel, by decide +kernel, by decide +kernel⟩, by decide +kernel, by decide +kernel⟩
theorem msW_sharedDigits : zMs mW_sharedDigits := (zt4 (i := 182) rfl)
def mW_sharedDigitsByScan : zM := (⟨"PrefixCodeIndexLaw", "sharedDigitsByScan", "(LPrefixCodeIndex;I[J)I"⟩, method_31_code, 4, (some .int), [(0, 9, 12, 13)])
theorem mdW_sharedDigitsByScan : zMd mW_sharedDigitsByScan 3 := ⟨(zt4 (i := 187) rfl), (zt1 (i := 0) rfl), ⟨by decide +kernel, by decide +kernel, by decide +kernel⟩, by decide +kernel, by decide +kernel⟩
theorem msW_sharedDigitsByScan : zMs mW_sharedDigitsByScan := (zt4 (i := 186) rfl)
def mW_startSegment : zM := (⟨"PrefixCodeIndexLaw", "startSegment", "(LPrefixCodeIndex;[J)I"⟩, method_9_code, 3, (some .int), [(0, 8, 11, 15)])
theorem mdW_startSegment : zMd mW_startSegment 2 := ⟨(zt3 (i := 236) rfl), (zt1 (i := 0) rfl), ⟨by decide +kernel, by decide +kernel, by decide +kernel⟩, by decide +kernel, by decide +kernel⟩
theorem msW_startSegment : zMs mW_startSegment := (zt3 (i := 235) rfl)
def mW_touch : zM := (⟨"PrefixCodeIndexLaw", "touch", "(LPrefixCodeIndex;I[J)I"⟩, method_7_code, 4, (some .int), [(0, 9, 12, 21)])
theorem mdW_touch : zMd mW_touch 3 := ⟨(zt3 (i := 222) rfl), (zt1 (i := 0) rfl), ⟨by decide +kernel, by decide +kernel, by decide +kernel⟩, by decide +kernel, by decide +kernel⟩
theorem msW_touch : zMs mW_touch := (zt3 (i := 221) rfl)
def mW_undo : zM := (⟨"PrefixCodeIndexLaw", "undo", "(LPrefixCodeIndex;[J)I"⟩, method_49_code, 3, (some .int), [(0, 8, 11, 15)])
theorem mdW_undo : zMd mW_undo 2 := ⟨(zt6 (i := 14) rfl), (zt1 (i := 0) rfl), ⟨by decide +kernel, by decide +kernel, by decide +kernel⟩, by decide +kernel, by decide +kernel⟩
theorem msW_undo : zMs mW_undo := (zt6 (i := 13) rfl)
def mW_weightOf : zM := (⟨"PrefixCodeIndexLaw", "weightOf", "(LPrefixCodeIndex;I[J)I"⟩, method_14_code, 4, (some .int), [(0, 9, 12, 21)])
theorem mdW_weightOf : zMd mW_weightOf 3 := ⟨(zt4 (i := 53) rfl), (zt1 (i := 0) rfl), ⟨by decide +kernel, by decide +kernel, by decide +kernel⟩, by decide +kernel, by decide +kernel⟩
theorem msW_weightOf : zMs mW_weightOf := (zt4 (i := 52) rfl)
def mX_addCode : zM := (⟨"PrefixCodeIndex", "addCode", "(II)I"⟩, prog_1_method_3_code, 3, (some .int), [])
theorem mdX_addCode : zMd mX_addCode 2 := ⟨(zt3 (i := 205) rfl), (zt1 (i := 1) rfl), ⟨by decide +kernel, by decide +kernel, by decide +kernel⟩, by decide +kernel, by decide +kernel⟩
theorem miX_addCode : zMi mX_addCode := (zt3 (i := 203) rfl)
theorem mvX_addCode : zMv mX_addCode := (zt3 (i := 204) rfl)
def mX_addEntry : zM := (⟨"PrefixCodeIndex", "addEntry", "(I)I"⟩, prog_1_method_2_code, 2, (some .int), [])
theorem mdX_addEntry : zMd mX_addEntry 1 := ⟨(zt3 (i := 60) rfl), (zt1 (i := 1) rfl), ⟨by decide +kernel, by decide +kernel, by decide +kernel⟩, by decide +kernel, by decide +kernel⟩
theorem miX_addEntry : zMi mX_addEntry := (zt3 (i := 58) rfl)
theorem mvX_addEntry : zMv mX_addEntry := (zt3 (i := 59) rfl)
def mX_addedTotal : zM := (⟨"PrefixCodeIndex", "addedTotal", "()I"⟩, prog_1_method_45_code, 1, (some .int), [])
theorem mdX_addedTotal : zMd mX_addedTotal 0 := ⟨(zt2 (i := 41) rfl), (zt1 (i := 1) rfl), ⟨by decide +kernel, by decide +kernel, by decide +kernel⟩, by decide +kernel, by decide +kernel⟩
theorem miX_addedTotal : zMi mX_addedTotal := (zt2 (i := 39) rfl)
theorem mvX_addedTotal : zMv mX_addedTotal := (zt2 (i := 40) rfl)
def mX_ageOf : zM := (⟨"PrefixCodeIndex", "ageOf", "(I)I"⟩, prog_1_method_17_code, 2, (some .int), [])
theorem mdX_ageOf : zMd mX_ageOf 1 := ⟨(zt4 (i := 64) rfl), (zt1 (i := 1) rfl), ⟨by decide +kernel, by decide +kernel, by decide +kernel⟩, by decide +kernel, by decide +kernel⟩
theorem miX_ageOf : zMi mX_ageOf := (zt4 (i := 62) rfl)
theorem mvX_ageOf : zMv mX_ageOf := (zt4 (i := 63) rfl)
def mX_append : zM := (⟨"PrefixCodeIndex", "append", "(C)I"⟩, prog_1_method_59_code, 2, (some .int), [])
theorem mdX_append : zMd mX_append 1 := ⟨(zt5 (i := 102) rfl), (zt1 (i := 1) rfl), ⟨by decide +kernel, by decide +kernel, by decide +kernel⟩, by decide +kernel, by decide +kernel⟩
theorem miX_append : zMi mX_append := (zt5 (i := 100) rfl)
theorem mvX_append : zMv mX_append := (zt5 (i := 101) rfl)
def mX_change : zM := (⟨"PrefixCodeIndex", "change", "(III)I"⟩, prog_1_method_12_code, 5, (some .int), [])
theorem mdX_change : zMd mX_change 3 := ⟨(zt3 (i := 64) rfl), (zt1 (i := 1) rfl), ⟨by decide +kernel, by decide +kernel, by decide +kernel⟩, by decide +kernel, by decide +kernel⟩
theorem miX_change : zMi mX_change := (zt3 (i := 63) rfl)
theorem mvX_change : zMv mX_change := (zt0 (i := 8) rfl)
def mX_codeAfter : zM := (⟨"PrefixCodeIndex", "codeAfter", "(I)I"⟩, prog_1_method_37_code, 4, (some .int), [])
theorem mdX_codeAfter : zMd mX_codeAfter 1 := ⟨(zt4 (i := 202) rfl), (zt1 (i := 1) rfl), ⟨by decide +kernel, by decide +kernel, by decide +kernel⟩, by decide +kernel, by decide +kernel⟩
theorem miX_codeAfter : zMi mX_codeAfter := (zt4 (i := 200) rfl)
theorem mvX_codeAfter : zMv mX_codeAfter := (zt4 (i := 201) rfl)
def mX_codeAt : zM := (⟨"PrefixCodeIndex", "codeAt", "(II)I"⟩, prog_1_method_22_code, 4, (some .int), [])
theorem mdX_codeAt : zMd mX_codeAt 2 := ⟨(zt4 (i := 100) rfl), (zt1 (i := 1) rfl), ⟨by decide +kernel, by decide +kernel, by decide +kernel⟩, by decide +kernel, by decide +kernel⟩
theorem miX_codeAt : zMi mX_codeAt := (zt4 (i := 98) rfl)
theorem mvX_codeAt : zMv mX_codeAt := (zt4 (i := 99) rfl)
def mX_codeCount : zM := (⟨"PrefixCodeIndex", "codeCount", "(I)I"⟩, prog_1_method_21_code, 2, (some .int), [])
theorem mdX_codeCount : zMd mX_codeCount 1 := ⟨(zt4 (i := 93) rfl), (zt1 (i := 1) rfl), ⟨by decide +kernel, by decide +kernel, by decide +kernel⟩, by decide +kernel, by decide +kernel⟩
theorem miX_codeCount : zMi mX_codeCount := (zt4 (i := 91) rfl)
theorem mvX_codeCount : zMv mX_codeCount := (zt4 (i := 92) rfl)
def mX_codesWith : zM := (⟨"PrefixCodeIndex", "codesWith", "(II)I"⟩, prog_1_method_32_code, 3, (some .int), [])
theorem mdX_codesWith : zMd mX_codesWith 2 := ⟨(zt4 (i := 167) rfl), (zt1 (i := 1) rfl), ⟨by decide +kernel, by decide +kernel, by decide +kernel⟩, by decide +kernel, by decide +kernel⟩
theorem miX_codesWith : zMi mX_codesWith := (zt4 (i := 165) rfl)
theorem mvX_codesWith : zMv mX_codesWith := (zt4 (i := 166) rfl)
def mX_commonDigits : zM := (⟨"PrefixCodeIndex", "commonDigits", "(II)I"⟩, prog_1_method_74_code, 2, (some .int), [])
theorem mdX_commonDigits : zMd mX_commonDigits 2 := ⟨(zt2 (i := 159) rfl), (zt1 (i := 1) rfl), ⟨by decide +kernel, by decide +kernel, by decide +kernel⟩, by decide +kernel, by decide +kernel⟩
theorem msX_commonDigits : zMs mX_commonDigits := (zt2 (i := 158) rfl)
def mX_commonestCode : zM := (⟨"PrefixCodeIndex", "commonestCode", "()I"⟩, prog_1_method_38_code, 2, (some .int), [])
theorem mdX_commonestCode : zMd mX_commonestCode 0 := ⟨(zt4 (i := 215) rfl), (zt1 (i := 1) rfl), ⟨by decide +kernel, by decide +kernel, by decide +kernel⟩, by decide +kernel, by decide +kernel⟩
theorem miX_commonestCode : zMi mX_commonestCode := (zt4 (i := 213) rfl)
theorem mvX_commonestCode : zMv mX_commonestCode := (zt4 (i := 214) rfl)
def mX_daysUntilFaded : zM := (⟨"PrefixCodeIndex", "daysUntilFaded", "(I)I"⟩, prog_1_method_42_code, 2, (some .int), [])
theorem mdX_daysUntilFaded : zMd mX_daysUntilFaded 1 := ⟨(zt2 (i := 227) rfl), (zt1 (i := 1) rfl), ⟨by decide +kernel, by decide +kernel, by decide +kernel⟩, by decide +kernel, by decide +kernel⟩
theorem miX_daysUntilFaded : zMi mX_daysUntilFaded := (zt2 (i := 225) rfl)
theorem mvX_daysUntilFaded : zMv mX_daysUntilFaded := (zt2 (i := 226) rfl)
def mX_daysUntilFadedByDays : zM := (⟨"PrefixCodeIndex", "daysUntilFadedByDays", "(I)I"⟩, prog_1_method_43_code, 3, (some .int), [])
theorem mdX_daysUntilFadedByDays : zMd mX_daysUntilFadedByDays 1 := ⟨(zt3 (i := 23) rfl), (zt1 (i := 1) rfl), ⟨by decide +kernel, by decide +kernel, by decide +kernel⟩, by decide +kernel, by decide +kernel⟩
theorem miX_daysUntilFadedByDays : zMi mX_daysUntilFadedByDays := (zt3 (i := 21) rfl)
theorem mvX_daysUntilFadedByDays : zMv mX_daysUntilFadedByDays := (zt3 (i := 22) rfl)
def mX_entriesIn : zM := (⟨"PrefixCodeIndex", "entriesIn", "(I)I"⟩, prog_1_method_27_code, 4, (some .int), [])
theorem mdX_entriesIn : zMd mX_entriesIn 1 := ⟨(zt4 (i := 122) rfl), (zt1 (i := 1) rfl), ⟨by decide +kernel, by decide +kernel, by decide +kernel⟩, by decide +kernel, by decide +kernel⟩
theorem miX_entriesIn : zMi mX_entriesIn := (zt4 (i := 120) rfl)
theorem mvX_entriesIn : zMv mX_entriesIn := (zt4 (i := 121) rfl)
def mX_entriesWith : zM := (⟨"PrefixCodeIndex", "entriesWith", "(I)I"⟩, prog_1_method_36_code, 2, (some .int), [])
theorem mdX_entriesWith : zMd mX_entriesWith 1 := ⟨(zt4 (i := 195) rfl), (zt1 (i := 1) rfl), ⟨by decide +kernel, by decide +kernel, by decide +kernel⟩, by decide +kernel, by decide +kernel⟩
theorem miX_entriesWith : zMi mX_entriesWith := (zt4 (i := 193) rfl)
theorem mvX_entriesWith : zMv mX_entriesWith := (zt4 (i := 194) rfl)
def mX_entryCount : zM := (⟨"PrefixCodeIndex", "entryCount", "()I"⟩, prog_1_method_14_code, 1, (some .int), [])
theorem mdX_entryCount : zMd mX_entryCount 0 := ⟨(zt2 (i := 33) rfl), (zt1 (i := 1) rfl), ⟨by decide +kernel, by decide +kernel, by decide +kernel⟩, by decide +kernel, by decide +kernel⟩
theorem miX_entryCount : zMi mX_entryCount := (zt2 (i := 31) rfl)
theorem mvX_entryCount : zMv mX_entryCount := (zt2 (i := 32) rfl)
def mX_errorPosition : zM := (⟨"PrefixCodeIndex", "errorPosition", "()I"⟩, prog_1_method_62_code, 1, (some .int), [])
theorem mdX_errorPosition : zMd mX_errorPosition 0 := ⟨(zt6 (i := 2) rfl), (zt1 (i := 1) rfl), ⟨by decide +kernel, by decide +kernel, by decide +kernel⟩, by decide +kernel, by decide +kernel⟩
theorem miX_errorPosition : zMi mX_errorPosition := (zt6 (i := 0) rfl)
theorem mvX_errorPosition : zMv mX_errorPosition := (zt6 (i := 1) rfl)
def mX_existing : zM := (⟨"PrefixCodeIndex", "existing", "(I)LPrefixCodeIndex$Entry;"⟩, prog_1_method_25_code, 3, (some (.object "PrefixCodeIndex$Entry")), [])
theorem mdX_existing : zMd mX_existing 1 := ⟨(zt2 (i := 231) rfl), (zt1 (i := 1) rfl), ⟨by decide +kernel, by decide +kernel, by decide +kernel⟩, by decide +kernel, by decide +kernel⟩
theorem miX_existing : zMi mX_existing := (zt2 (i := 230) rfl)
theorem mvX_existing : zMv mX_existing := (zt0 (i := 6) rfl)
def mX_fadedShare : zM := (⟨"PrefixCodeIndex", "fadedShare", "()F"⟩, prog_1_method_50_code, 1, (some .float), [])
theorem mdX_fadedShare : zMd mX_fadedShare 0 := ⟨(zt5 (i := 43) rfl), (zt1 (i := 1) rfl), ⟨by decide +kernel, by decide +kernel, by decide +kernel⟩, by decide +kernel, by decide +kernel⟩
theorem miX_fadedShare : zMi mX_fadedShare := (zt5 (i := 41) rfl)
theorem mvX_fadedShare : zMv mX_fadedShare := (zt5 (i := 42) rfl)
def mX_fadedTotal : zM := (⟨"PrefixCodeIndex", "fadedTotal", "()I"⟩, prog_1_method_48_code, 1, (some .int), [])
theorem mdX_fadedTotal : zMd mX_fadedTotal 0 := ⟨(zt2 (i := 53) rfl), (zt1 (i := 1) rfl), ⟨by decide +kernel, by decide +kernel, by decide +kernel⟩, by decide +kernel, by decide +kernel⟩
theorem miX_fadedTotal : zMi mX_fadedTotal := (zt2 (i := 51) rfl)
theorem mvX_fadedTotal : zMv mX_fadedTotal := (zt2 (i := 52) rfl)
def mX_fadingAgrees : zM := (⟨"PrefixCodeIndex", "fadingAgrees", "()Z"⟩, prog_1_method_54_code, 3, (some .boolean), [])
theorem mdX_fadingAgrees : zMd mX_fadingAgrees 0 := ⟨(zt2 (i := 223) rfl), (zt1 (i := 1) rfl), ⟨by decide +kernel, by decide +kernel, by decide +kernel⟩, by decide +kernel, by decide +kernel⟩
theorem miX_fadingAgrees : zMi mX_fadingAgrees := (zt2 (i := 222) rfl)
theorem mvX_fadingAgrees : zMv mX_fadingAgrees := (zt0 (i := 5) rfl)
def mX_fadingWithin : zM := (⟨"PrefixCodeIndex", "fadingWithin", "(I)I"⟩, prog_1_method_44_code, 4, (some .int), [])
theorem mdX_fadingWithin : zMd mX_fadingWithin 1 := ⟨(zt5 (i := 11) rfl), (zt1 (i := 1) rfl), ⟨by decide +kernel, by decide +kernel, by decide +kernel⟩, by decide +kernel, by decide +kernel⟩
theorem miX_fadingWithin : zMi mX_fadingWithin := (zt5 (i := 9) rfl)
theorem mvX_fadingWithin : zMv mX_fadingWithin := (zt5 (i := 10) rfl)
def mX_failedCommand : zM := (⟨"PrefixCodeIndex", "failedCommand", "()I"⟩, prog_1_method_63_code, 1, (some .int), [])
theorem mdX_failedCommand : zMd mX_failedCommand 0 := ⟨(zt6 (i := 10) rfl), (zt1 (i := 1) rfl), ⟨by decide +kernel, by decide +kernel, by decide +kernel⟩, by decide +kernel, by decide +kernel⟩
theorem miX_failedCommand : zMi mX_failedCommand := (zt6 (i := 8) rfl)
theorem mvX_failedCommand : zMv mX_failedCommand := (zt6 (i := 9) rfl)
def mX_firstFailing : zM := (⟨"PrefixCodeIndex", "firstFailing", "()I"⟩, prog_1_method_61_code, 3, (some .int), [])
theorem mdX_firstFailing : zMd mX_firstFailing 0 := ⟨(zt5 (i := 230) rfl), (zt1 (i := 1) rfl), ⟨by decide +kernel, by decide +kernel, by decide +kernel⟩, by decide +kernel, by decide +kernel⟩
theorem miX_firstFailing : zMi mX_firstFailing := (zt5 (i := 229) rfl)
theorem mvX_firstFailing : zMv mX_firstFailing := (zt0 (i := 32) rfl)
def mX_formatEntry : zM := (⟨"PrefixCodeIndex", "formatEntry", "(I)I"⟩, prog_1_method_56_code, 4, (some .int), [])
theorem mdX_formatEntry : zMd mX_formatEntry 1 := ⟨(zt5 (i := 51) rfl), (zt1 (i := 1) rfl), ⟨by decide +kernel, by decide +kernel, by decide +kernel⟩, by decide +kernel, by decide +kernel⟩
theorem miX_formatEntry : zMi mX_formatEntry := (zt5 (i := 49) rfl)
theorem mvX_formatEntry : zMv mX_formatEntry := (zt5 (i := 50) rfl)
def mX_formatResults : zM := (⟨"PrefixCodeIndex", "formatResults", "(II)I"⟩, prog_1_method_57_code, 4, (some .int), [])
theorem mdX_formatResults : zMd mX_formatResults 2 := ⟨(zt5 (i := 86) rfl), (zt1 (i := 1) rfl), ⟨by decide +kernel, by decide +kernel, by decide +kernel⟩, by decide +kernel, by decide +kernel⟩
theorem miX_formatResults : zMi mX_formatResults := (zt5 (i := 84) rfl)
theorem mvX_formatResults : zMv mX_formatResults := (zt5 (i := 85) rfl)
def mX_freshTrie : zM := (⟨"PrefixCodeIndex", "freshTrie", "()LPrefixCodeIndex$Trie;"⟩, prog_1_method_41_code, 1, (some (.object "PrefixCodeIndex$Trie")), [])
theorem mdX_freshTrie : zMd mX_freshTrie 0 := ⟨(zt2 (i := 149) rfl), (zt1 (i := 1) rfl), ⟨by decide +kernel, by decide +kernel, by decide +kernel⟩, by decide +kernel, by decide +kernel⟩
theorem miX_freshTrie : zMi mX_freshTrie := (zt2 (i := 148) rfl)
theorem mvX_freshTrie : zMv mX_freshTrie := (zt0 (i := 2) rfl)
def mX_hasCode : zM := (⟨"PrefixCodeIndex", "hasCode", "(II)Z"⟩, prog_1_method_23_code, 4, (some .boolean), [])
theorem mdX_hasCode : zMd mX_hasCode 2 := ⟨(zt4 (i := 107) rfl), (zt1 (i := 1) rfl), ⟨by decide +kernel, by decide +kernel, by decide +kernel⟩, by decide +kernel, by decide +kernel⟩
theorem miX_hasCode : zMi mX_hasCode := (zt4 (i := 105) rfl)
theorem mvX_hasCode : zMv mX_hasCode := (zt4 (i := 106) rfl)
def mX_hasPrefix : zM := (⟨"PrefixCodeIndex", "hasPrefix", "(III)Z"⟩, prog_1_method_72_code, 3, (some .boolean), [])
theorem mdX_hasPrefix : zMd mX_hasPrefix 3 := ⟨(zt2 (i := 188) rfl), (zt1 (i := 1) rfl), ⟨by decide +kernel, by decide +kernel, by decide +kernel⟩, by decide +kernel, by decide +kernel⟩
theorem msX_hasPrefix : zMs mX_hasPrefix := (zt2 (i := 187) rfl)
def mX_hitsOf : zM := (⟨"PrefixCodeIndex", "hitsOf", "(I)I"⟩, prog_1_method_18_code, 2, (some .int), [])
theorem mdX_hitsOf : zMd mX_hitsOf 1 := ⟨(zt4 (i := 71) rfl), (zt1 (i := 1) rfl), ⟨by decide +kernel, by decide +kernel, by decide +kernel⟩, by decide +kernel, by decide +kernel⟩
theorem miX_hitsOf : zMi mX_hitsOf := (zt4 (i := 69) rfl)
theorem mvX_hitsOf : zMv mX_hitsOf := (zt4 (i := 70) rfl)
def mX_idAt : zM := (⟨"PrefixCodeIndex", "idAt", "(I)I"⟩, prog_1_method_15_code, 2, (some .int), [])
theorem mdX_idAt : zMd mX_idAt 1 := ⟨(zt4 (i := 49) rfl), (zt1 (i := 1) rfl), ⟨by decide +kernel, by decide +kernel, by decide +kernel⟩, by decide +kernel, by decide +kernel⟩
theorem miX_idAt : zMi mX_idAt := (zt4 (i := 47) rfl)
theorem mvX_idAt : zMv mX_idAt := (zt4 (i := 48) rfl)
def mX_init : zM := (⟨"PrefixCodeIndex", "<init>", "()V"⟩, prog_1_method_1_code, 1, none, [])
theorem mdX_init : zMd mX_init 0 := ⟨(zt1 (i := 30) rfl), (zt1 (i := 1) rfl), ⟨by decide +kernel, by decide +kernel, by decide +kernel⟩, by decide +kernel, by decide +kernel⟩
theorem miX_init : zMi mX_init := (zt1 (i := 29) rfl)
def mX_isCode : zM := (⟨"PrefixCodeIndex", "isCode", "(I)Z"⟩, prog_1_method_70_code, 1, (some .boolean), [])
theorem mdX_isCode : zMd mX_isCode 1 := ⟨(zt2 (i := 202) rfl), (zt1 (i := 1) rfl), ⟨by decide +kernel, by decide +kernel, by decide +kernel⟩, by decide +kernel, by decide +kernel⟩
theorem msX_isCode : zMs mX_isCode := (zt2 (i := 201) rfl)
def mX_isConsistent : zM := (⟨"PrefixCodeIndex", "isConsistent", "()Z"⟩, prog_1_method_51_code, 1, (some .boolean), [])
theorem mdX_isConsistent : zMd mX_isConsistent 0 := ⟨(zt2 (i := 57) rfl), (zt1 (i := 1) rfl), ⟨by decide +kernel, by decide +kernel, by decide +kernel⟩, by decide +kernel, by decide +kernel⟩
theorem miX_isConsistent : zMi mX_isConsistent := (zt2 (i := 55) rfl)
theorem mvX_isConsistent : zMv mX_isConsistent := (zt2 (i := 56) rfl)
def mX_isPrefix : zM := (⟨"PrefixCodeIndex", "isPrefix", "(II)Z"⟩, prog_1_method_71_code, 2, (some .boolean), [])
theorem mdX_isPrefix : zMd mX_isPrefix 2 := ⟨(zt2 (i := 71) rfl), (zt1 (i := 1) rfl), ⟨by decide +kernel, by decide +kernel, by decide +kernel⟩, by decide +kernel, by decide +kernel⟩
theorem msX_isPrefix : zMs mX_isPrefix := (zt2 (i := 70) rfl)
def mX_joinSegments : zM := (⟨"PrefixCodeIndex", "joinSegments", "(I)I"⟩, prog_1_method_9_code, 2, (some .int), [])
theorem mdX_joinSegments : zMd mX_joinSegments 1 := ⟨(zt4 (i := 28) rfl), (zt1 (i := 1) rfl), ⟨by decide +kernel, by decide +kernel, by decide +kernel⟩, by decide +kernel, by decide +kernel⟩
theorem miX_joinSegments : zMi mX_joinSegments := (zt4 (i := 26) rfl)
theorem mvX_joinSegments : zMv mX_joinSegments := (zt4 (i := 27) rfl)
def mX_lifetimeOf : zM := (⟨"PrefixCodeIndex", "lifetimeOf", "(I)I"⟩, prog_1_method_19_code, 2, (some .int), [])
theorem mdX_lifetimeOf : zMd mX_lifetimeOf 1 := ⟨(zt4 (i := 78) rfl), (zt1 (i := 1) rfl), ⟨by decide +kernel, by decide +kernel, by decide +kernel⟩, by decide +kernel, by decide +kernel⟩
theorem miX_lifetimeOf : zMi mX_lifetimeOf := (zt4 (i := 76) rfl)
theorem mvX_lifetimeOf : zMv mX_lifetimeOf := (zt4 (i := 77) rfl)
def mX_lineChar : zM := (⟨"PrefixCodeIndex", "lineChar", "(I)C"⟩, prog_1_method_58_code, 2, (some .char), [])
theorem mdX_lineChar : zMd mX_lineChar 1 := ⟨(zt5 (i := 94) rfl), (zt1 (i := 1) rfl), ⟨by decide +kernel, by decide +kernel, by decide +kernel⟩, by decide +kernel, by decide +kernel⟩
theorem miX_lineChar : zMi mX_lineChar := (zt5 (i := 92) rfl)
theorem mvX_lineChar : zMv mX_lineChar := (zt5 (i := 93) rfl)
def mX_matches : zM := (⟨"PrefixCodeIndex", "matches", "(III)Z"⟩, prog_1_method_24_code, 5, (some .boolean), [])
theorem mdX_matches : zMd mX_matches 3 := ⟨(zt4 (i := 115) rfl), (zt1 (i := 1) rfl), ⟨by decide +kernel, by decide +kernel, by decide +kernel⟩, by decide +kernel, by decide +kernel⟩
theorem miX_matches : zMi mX_matches := (zt4 (i := 113) rfl)
theorem mvX_matches : zMv mX_matches := (zt4 (i := 114) rfl)
def mX_meanCodes : zM := (⟨"PrefixCodeIndex", "meanCodes", "()D"⟩, prog_1_method_49_code, 3, (some .double), [])
theorem mdX_meanCodes : zMd mX_meanCodes 0 := ⟨(zt5 (i := 33) rfl), (zt1 (i := 1) rfl), ⟨by decide +kernel, by decide +kernel, by decide +kernel⟩, by decide +kernel, by decide +kernel⟩
theorem miX_meanCodes : zMi mX_meanCodes := (zt5 (i := 31) rfl)
theorem mvX_meanCodes : zMv mX_meanCodes := (zt5 (i := 32) rfl)
def mX_merge : zM := (⟨"PrefixCodeIndex", "merge", "(II)I"⟩, prog_1_method_7_code, 3, (some .int), [])
theorem mdX_merge : zMd mX_merge 2 := ⟨(zt3 (i := 233) rfl), (zt1 (i := 1) rfl), ⟨by decide +kernel, by decide +kernel, by decide +kernel⟩, by decide +kernel, by decide +kernel⟩
theorem miX_merge : zMi mX_merge := (zt3 (i := 231) rfl)
theorem mvX_merge : zMv mX_merge := (zt3 (i := 232) rfl)
def mX_mergedTotal : zM := (⟨"PrefixCodeIndex", "mergedTotal", "()I"⟩, prog_1_method_47_code, 1, (some .int), [])
theorem mdX_mergedTotal : zMd mX_mergedTotal 0 := ⟨(zt2 (i := 49) rfl), (zt1 (i := 1) rfl), ⟨by decide +kernel, by decide +kernel, by decide +kernel⟩, by decide +kernel, by decide +kernel⟩
theorem miX_mergedTotal : zMi mX_mergedTotal := (zt2 (i := 47) rfl)
theorem mvX_mergedTotal : zMv mX_mergedTotal := (zt2 (i := 48) rfl)
def mX_mostSimilar : zM := (⟨"PrefixCodeIndex", "mostSimilar", "(I)I"⟩, prog_1_method_40_code, 8, (some .int), [])
theorem mdX_mostSimilar : zMd mX_mostSimilar 1 := ⟨(zt4 (i := 235) rfl), (zt1 (i := 1) rfl), ⟨by decide +kernel, by decide +kernel, by decide +kernel⟩, by decide +kernel, by decide +kernel⟩
theorem miX_mostSimilar : zMi mX_mostSimilar := (zt4 (i := 233) rfl)
theorem mvX_mostSimilar : zMv mX_mostSimilar := (zt4 (i := 234) rfl)
def mX_nextDigits : zM := (⟨"PrefixCodeIndex", "nextDigits", "(II)I"⟩, prog_1_method_33_code, 3, (some .int), [])
theorem mdX_nextDigits : zMd mX_nextDigits 2 := ⟨(zt4 (i := 175) rfl), (zt1 (i := 1) rfl), ⟨by decide +kernel, by decide +kernel, by decide +kernel⟩, by decide +kernel, by decide +kernel⟩
theorem miX_nextDigits : zMi mX_nextDigits := (zt4 (i := 173) rfl)
theorem mvX_nextDigits : zMv mX_nextDigits := (zt4 (i := 174) rfl)
def mX_pass : zM := (⟨"PrefixCodeIndex", "pass", "(I)I"⟩, prog_1_method_11_code, 2, (some .int), [])
theorem mdX_pass : zMd mX_pass 1 := ⟨(zt4 (i := 42) rfl), (zt1 (i := 1) rfl), ⟨by decide +kernel, by decide +kernel, by decide +kernel⟩, by decide +kernel, by decide +kernel⟩
theorem miX_pass : zMi mX_pass := (zt4 (i := 40) rfl)
theorem mvX_pass : zMv mX_pass := (zt4 (i := 41) rfl)
def mX_removeCode : zM := (⟨"PrefixCodeIndex", "removeCode", "(II)I"⟩, prog_1_method_4_code, 3, (some .int), [])
theorem mdX_removeCode : zMd mX_removeCode 2 := ⟨(zt3 (i := 212) rfl), (zt1 (i := 1) rfl), ⟨by decide +kernel, by decide +kernel, by decide +kernel⟩, by decide +kernel, by decide +kernel⟩
theorem miX_removeCode : zMi mX_removeCode := (zt3 (i := 210) rfl)
theorem mvX_removeCode : zMv mX_removeCode := (zt3 (i := 211) rfl)
def mX_removeEntry : zM := (⟨"PrefixCodeIndex", "removeEntry", "(I)I"⟩, prog_1_method_5_code, 2, (some .int), [])
theorem mdX_removeEntry : zMd mX_removeEntry 1 := ⟨(zt3 (i := 219) rfl), (zt1 (i := 1) rfl), ⟨by decide +kernel, by decide +kernel, by decide +kernel⟩, by decide +kernel, by decide +kernel⟩
theorem miX_removeEntry : zMi mX_removeEntry := (zt3 (i := 217) rfl)
theorem mvX_removeEntry : zMv mX_removeEntry := (zt3 (i := 218) rfl)
def mX_removedTotal : zM := (⟨"PrefixCodeIndex", "removedTotal", "()I"⟩, prog_1_method_46_code, 1, (some .int), [])
theorem mdX_removedTotal : zMd mX_removedTotal 0 := ⟨(zt2 (i := 45) rfl), (zt1 (i := 1) rfl), ⟨by decide +kernel, by decide +kernel, by decide +kernel⟩, by decide +kernel, by decide +kernel⟩
theorem miX_removedTotal : zMi mX_removedTotal := (zt2 (i := 43) rfl)
theorem mvX_removedTotal : zMv mX_removedTotal := (zt2 (i := 44) rfl)
def mX_requireCode : zM := (⟨"PrefixCodeIndex", "requireCode", "(I)V"⟩, prog_1_method_68_code, 1, none, [])
theorem mdX_requireCode : zMd mX_requireCode 1 := ⟨(zt2 (i := 199) rfl), (zt1 (i := 1) rfl), ⟨by decide +kernel, by decide +kernel, by decide +kernel⟩, by decide +kernel, by decide +kernel⟩
theorem msX_requireCode : zMs mX_requireCode := (zt2 (i := 198) rfl)
def mX_requirePrefix : zM := (⟨"PrefixCodeIndex", "requirePrefix", "(II)V"⟩, prog_1_method_69_code, 2, none, [])
theorem mdX_requirePrefix : zMd mX_requirePrefix 2 := ⟨(zt2 (i := 68) rfl), (zt1 (i := 1) rfl), ⟨by decide +kernel, by decide +kernel, by decide +kernel⟩, by decide +kernel, by decide +kernel⟩
theorem msX_requirePrefix : zMs mX_requirePrefix := (zt2 (i := 67) rfl)
def mX_restore : zM := (⟨"PrefixCodeIndex", "restore", "()I"⟩, prog_1_method_67_code, 1, (some .int), [])
theorem mdX_restore : zMd mX_restore 0 := ⟨(zt6 (i := 30) rfl), (zt1 (i := 1) rfl), ⟨by decide +kernel, by decide +kernel, by decide +kernel⟩, by decide +kernel, by decide +kernel⟩
theorem miX_restore : zMi mX_restore := (zt6 (i := 28) rfl)
theorem mvX_restore : zMv mX_restore := (zt6 (i := 29) rfl)
def mX_resultAt : zM := (⟨"PrefixCodeIndex", "resultAt", "(III)I"⟩, prog_1_method_30_code, 4, (some .int), [])
theorem mdX_resultAt : zMd mX_resultAt 3 := ⟨(zt4 (i := 137) rfl), (zt1 (i := 1) rfl), ⟨by decide +kernel, by decide +kernel, by decide +kernel⟩, by decide +kernel, by decide +kernel⟩
theorem miX_resultAt : zMi mX_resultAt := (zt4 (i := 135) rfl)
theorem mvX_resultAt : zMv mX_resultAt := (zt4 (i := 136) rfl)
def mX_resultCount : zM := (⟨"PrefixCodeIndex", "resultCount", "(II)I"⟩, prog_1_method_28_code, 3, (some .int), [])
theorem mdX_resultCount : zMd mX_resultCount 2 := ⟨(zt2 (i := 65) rfl), (zt1 (i := 1) rfl), ⟨by decide +kernel, by decide +kernel, by decide +kernel⟩, by decide +kernel, by decide +kernel⟩
theorem miX_resultCount : zMi mX_resultCount := (zt2 (i := 63) rfl)
theorem mvX_resultCount : zMv mX_resultCount := (zt2 (i := 64) rfl)
def mX_resultCountByScan : zM := (⟨"PrefixCodeIndex", "resultCountByScan", "(II)I"⟩, prog_1_method_29_code, 5, (some .int), [])
theorem mdX_resultCountByScan : zMd mX_resultCountByScan 2 := ⟨(zt2 (i := 181) rfl), (zt1 (i := 1) rfl), ⟨by decide +kernel, by decide +kernel, by decide +kernel⟩, by decide +kernel, by decide +kernel⟩
theorem miX_resultCountByScan : zMi mX_resultCountByScan := (zt2 (i := 179) rfl)
theorem mvX_resultCountByScan : zMv mX_resultCountByScan := (zt2 (i := 180) rfl)
def mX_resultCountsAgree : zM := (⟨"PrefixCodeIndex", "resultCountsAgree", "()Z"⟩, prog_1_method_52_code, 3, (some .boolean), [])
theorem mdX_resultCountsAgree : zMd mX_resultCountsAgree 0 := ⟨(zt2 (i := 61) rfl), (zt1 (i := 1) rfl), ⟨by decide +kernel, by decide +kernel, by decide +kernel⟩, by decide +kernel, by decide +kernel⟩
theorem miX_resultCountsAgree : zMi mX_resultCountsAgree := (zt2 (i := 60) rfl)
theorem mvX_resultCountsAgree : zMv mX_resultCountsAgree := (zt0 (i := 0) rfl)
def mX_run : zM := (⟨"PrefixCodeIndex", "run", "()I"⟩, prog_1_method_60_code, 3, (some .int), [])
theorem mdX_run : zMd mX_run 0 := ⟨(zt5 (i := 115) rfl), (zt1 (i := 1) rfl), ⟨by decide +kernel, by decide +kernel, by decide +kernel⟩, by decide +kernel, by decide +kernel⟩
theorem miX_run : zMi mX_run := (zt5 (i := 113) rfl)
theorem mvX_run : zMv mX_run := (zt5 (i := 114) rfl)
def mX_save : zM := (⟨"PrefixCodeIndex", "save", "()I"⟩, prog_1_method_66_code, 1, (some .int), [])
theorem mdX_save : zMd mX_save 0 := ⟨(zt3 (i := 46) rfl), (zt1 (i := 1) rfl), ⟨by decide +kernel, by decide +kernel, by decide +kernel⟩, by decide +kernel, by decide +kernel⟩
theorem miX_save : zMi mX_save := (zt3 (i := 44) rfl)
theorem mvX_save : zMv mX_save := (zt3 (i := 45) rfl)
def mX_scoreOf : zM := (⟨"PrefixCodeIndex", "scoreOf", "(III)I"⟩, prog_1_method_31_code, 5, (some .int), [])
theorem mdX_scoreOf : zMd mX_scoreOf 3 := ⟨(zt4 (i := 159) rfl), (zt1 (i := 1) rfl), ⟨by decide +kernel, by decide +kernel, by decide +kernel⟩, by decide +kernel, by decide +kernel⟩
theorem miX_scoreOf : zMi mX_scoreOf := (zt4 (i := 157) rfl)
theorem mvX_scoreOf : zMv mX_scoreOf := (zt4 (i := 158) rfl)
def mX_search : zM := (⟨"PrefixCodeIndex", "search", "(II)I"⟩, prog_1_method_10_code, 3, (some .int), [])
theorem mdX_search : zMd mX_search 2 := ⟨(zt4 (i := 35) rfl), (zt1 (i := 1) rfl), ⟨by decide +kernel, by decide +kernel, by decide +kernel⟩, by decide +kernel, by decide +kernel⟩
theorem miX_search : zMi mX_search := (zt4 (i := 33) rfl)
theorem mvX_search : zMv mX_search := (zt4 (i := 34) rfl)
def mX_segmentCount : zM := (⟨"PrefixCodeIndex", "segmentCount", "()I"⟩, prog_1_method_26_code, 1, (some .int), [])
theorem mdX_segmentCount : zMd mX_segmentCount 0 := ⟨(zt2 (i := 37) rfl), (zt1 (i := 1) rfl), ⟨by decide +kernel, by decide +kernel, by decide +kernel⟩, by decide +kernel, by decide +kernel⟩
theorem miX_segmentCount : zMi mX_segmentCount := (zt2 (i := 35) rfl)
theorem mvX_segmentCount : zMv mX_segmentCount := (zt2 (i := 36) rfl)
def mX_segmentOf : zM := (⟨"PrefixCodeIndex", "segmentOf", "(I)I"⟩, prog_1_method_20_code, 2, (some .int), [])
theorem mdX_segmentOf : zMd mX_segmentOf 1 := ⟨(zt4 (i := 86) rfl), (zt1 (i := 1) rfl), ⟨by decide +kernel, by decide +kernel, by decide +kernel⟩, by decide +kernel, by decide +kernel⟩
theorem miX_segmentOf : zMi mX_segmentOf := (zt4 (i := 84) rfl)
theorem mvX_segmentOf : zMv mX_segmentOf := (zt4 (i := 85) rfl)
def mX_sharedCodes : zM := (⟨"PrefixCodeIndex", "sharedCodes", "(II)I"⟩, prog_1_method_39_code, 3, (some .int), [])
theorem mdX_sharedCodes : zMd mX_sharedCodes 2 := ⟨(zt4 (i := 227) rfl), (zt1 (i := 1) rfl), ⟨by decide +kernel, by decide +kernel, by decide +kernel⟩, by decide +kernel, by decide +kernel⟩
theorem miX_sharedCodes : zMi mX_sharedCodes := (zt4 (i := 225) rfl)
theorem mvX_sharedCodes : zMv mX_sharedCodes := (zt4 (i := 226) rfl)
def mX_sharedDigits : zM := (⟨"PrefixCodeIndex", "sharedDigits", "(I)I"⟩, prog_1_method_34_code, 2, (some .int), [])
theorem mdX_sharedDigits : zMd mX_sharedDigits 1 := ⟨(zt2 (i := 196) rfl), (zt1 (i := 1) rfl), ⟨by decide +kernel, by decide +kernel, by decide +kernel⟩, by decide +kernel, by decide +kernel⟩
theorem miX_sharedDigits : zMi mX_sharedDigits := (zt2 (i := 194) rfl)
theorem mvX_sharedDigits : zMv mX_sharedDigits := (zt2 (i := 195) rfl)
def mX_sharedDigitsAgree : zM := (⟨"PrefixCodeIndex", "sharedDigitsAgree", "()Z"⟩, prog_1_method_53_code, 4, (some .boolean), [])
theorem mdX_sharedDigitsAgree : zMd mX_sharedDigitsAgree 0 := ⟨(zt2 (i := 192) rfl), (zt1 (i := 1) rfl), ⟨by decide +kernel, by decide +kernel, by decide +kernel⟩, by decide +kernel, by decide +kernel⟩
theorem miX_sharedDigitsAgree : zMi mX_sharedDigitsAgree := (zt2 (i := 191) rfl)
theorem mvX_sharedDigitsAgree : zMv mX_sharedDigitsAgree := (zt0 (i := 4) rfl)
def mX_sharedDigitsByScan : zM := (⟨"PrefixCodeIndex", "sharedDigitsByScan", "(I)I"⟩, prog_1_method_35_code, 6, (some .int), [])
theorem mdX_sharedDigitsByScan : zMd mX_sharedDigitsByScan 1 := ⟨(zt2 (i := 215) rfl), (zt1 (i := 1) rfl), ⟨by decide +kernel, by decide +kernel, by decide +kernel⟩, by decide +kernel, by decide +kernel⟩
theorem miX_sharedDigitsByScan : zMi mX_sharedDigitsByScan := (zt2 (i := 213) rfl)
theorem mvX_sharedDigitsByScan : zMv mX_sharedDigitsByScan := (zt2 (i := 214) rfl)
def mX_startSegment : zM := (⟨"PrefixCodeIndex", "startSegment", "()I"⟩, prog_1_method_8_code, 1, (some .int), [])
theorem mdX_startSegment : zMd mX_startSegment 0 := ⟨(zt4 (i := 0) rfl), (zt1 (i := 1) rfl), ⟨by decide +kernel, by decide +kernel, by decide +kernel⟩, by decide +kernel, by decide +kernel⟩
theorem miX_startSegment : zMi mX_startSegment := (zt3 (i := 238) rfl)
theorem mvX_startSegment : zMv mX_startSegment := (zt3 (i := 239) rfl)
def mX_throwFor : zM := (⟨"PrefixCodeIndex", "throwFor", "(I)V"⟩, prog_1_method_13_code, 1, none, [])
theorem mdX_throwFor : zMd mX_throwFor 1 := ⟨(zt3 (i := 159) rfl), (zt1 (i := 1) rfl), ⟨by decide +kernel, by decide +kernel, by decide +kernel⟩, by decide +kernel, by decide +kernel⟩
theorem msX_throwFor : zMs mX_throwFor := (zt3 (i := 158) rfl)
def mX_totalsAgree : zM := (⟨"PrefixCodeIndex", "totalsAgree", "()Z"⟩, prog_1_method_55_code, 2, (some .boolean), [])
theorem mdX_totalsAgree : zMd mX_totalsAgree 0 := ⟨(zt3 (i := 38) rfl), (zt1 (i := 1) rfl), ⟨by decide +kernel, by decide +kernel, by decide +kernel⟩, by decide +kernel, by decide +kernel⟩
theorem miX_totalsAgree : zMi mX_totalsAgree := (zt3 (i := 37) rfl)
theorem mvX_totalsAgree : zMv mX_totalsAgree := (zt0 (i := 7) rfl)
def mX_touch : zM := (⟨"PrefixCodeIndex", "touch", "(I)I"⟩, prog_1_method_6_code, 2, (some .int), [])
theorem mdX_touch : zMd mX_touch 1 := ⟨(zt3 (i := 226) rfl), (zt1 (i := 1) rfl), ⟨by decide +kernel, by decide +kernel, by decide +kernel⟩, by decide +kernel, by decide +kernel⟩
theorem miX_touch : zMi mX_touch := (zt3 (i := 224) rfl)
theorem mvX_touch : zMv mX_touch := (zt3 (i := 225) rfl)
def mX_undo : zM := (⟨"PrefixCodeIndex", "undo", "()I"⟩, prog_1_method_65_code, 1, (some .int), [])
theorem mdX_undo : zMd mX_undo 0 := ⟨(zt6 (i := 18) rfl), (zt1 (i := 1) rfl), ⟨by decide +kernel, by decide +kernel, by decide +kernel⟩, by decide +kernel, by decide +kernel⟩
theorem miX_undo : zMi mX_undo := (zt6 (i := 16) rfl)
theorem mvX_undo : zMv mX_undo := (zt6 (i := 17) rfl)
def mX_undoableCount : zM := (⟨"PrefixCodeIndex", "undoableCount", "()I"⟩, prog_1_method_64_code, 1, (some .int), [])
theorem mdX_undoableCount : zMd mX_undoableCount 0 := ⟨(zt3 (i := 42) rfl), (zt1 (i := 1) rfl), ⟨by decide +kernel, by decide +kernel, by decide +kernel⟩, by decide +kernel, by decide +kernel⟩
theorem miX_undoableCount : zMi mX_undoableCount := (zt3 (i := 40) rfl)
theorem mvX_undoableCount : zMv mX_undoableCount := (zt3 (i := 41) rfl)
def mX_weightOf : zM := (⟨"PrefixCodeIndex", "weightOf", "(I)I"⟩, prog_1_method_16_code, 2, (some .int), [])
theorem mdX_weightOf : zMd mX_weightOf 1 := ⟨(zt4 (i := 57) rfl), (zt1 (i := 1) rfl), ⟨by decide +kernel, by decide +kernel, by decide +kernel⟩, by decide +kernel, by decide +kernel⟩
theorem miX_weightOf : zMi mX_weightOf := (zt4 (i := 55) rfl)
theorem mvX_weightOf : zMv mX_weightOf := (zt4 (i := 56) rfl)
def mX_withoutEnd : zM := (⟨"PrefixCodeIndex", "withoutEnd", "(II)I"⟩, prog_1_method_73_code, 4, (some .int), [])
theorem mdX_withoutEnd : zMd mX_withoutEnd 2 := ⟨(zt2 (i := 74) rfl), (zt1 (i := 1) rfl), ⟨by decide +kernel, by decide +kernel, by decide +kernel⟩, by decide +kernel, by decide +kernel⟩
theorem msX_withoutEnd : zMs mX_withoutEnd := (zt2 (i := 73) rfl)
/-! links -/
theorem fX_12 : zF "PrefixCodeIndex" 12 7 0 true (.object "PrefixCodeIndex$Contents") := ⟨zRX, zTX, 12, rfl, by decide, (zt1 (i := 233) rfl), rfl, rfl, by decide +kernel⟩
theorem fX_16 : zF "PrefixCodeIndex" 16 7 1 true (.object "PrefixCodeIndex$Contents") := ⟨zRX, zTX, 12, rfl, by decide, (zt1 (i := 234) rfl), rfl, rfl, by decide +kernel⟩
theorem fX_22 : zF "PrefixCodeIndex" 22 7 2 true (.object "PrefixCodeIndex$History") := ⟨zRX, zTX, 12, rfl, by decide, (zt1 (i := 235) rfl), rfl, rfl, by decide +kernel⟩
theorem fX_29 : zF "PrefixCodeIndex" 29 7 3 true (.object "PrefixCodeIndex$Trie") := ⟨zRX, zTX, 12, rfl, by decide, (zt1 (i := 236) rfl), rfl, rfl, by decide +kernel⟩
theorem fX_36 : zF "PrefixCodeIndex" 36 7 4 true (.object "PrefixCodeIndex$Ranking") := ⟨zRX, zTX, 12, rfl, by decide, (zt1 (i := 237) rfl), rfl, rfl, by decide +kernel⟩
theorem fX_43 : zF "PrefixCodeIndex" 43 7 5 true (.object "PrefixCodeIndex$Program") := ⟨zRX, zTX, 12, rfl, by decide, (zt1 (i := 238) rfl), rfl, rfl, by decide +kernel⟩
theorem fX_50 : zF "PrefixCodeIndex" 50 7 6 true (.object "PrefixCodeIndex$Line") := ⟨zRX, zTX, 12, rfl, by decide, (zt1 (i := 239) rfl), rfl, rfl, by decide +kernel⟩
theorem fX_57 : zF "PrefixCodeIndex" 57 7 7 true (.object "PrefixCodeIndex$Entry") := ⟨zRX, zTX, 12, rfl, by decide, (zt2 (i := 0) rfl), rfl, rfl, by decide +kernel⟩
theorem fX_61 : zF "PrefixCodeIndex" 61 7 8 false .boolean := ⟨zRX, zTX, 12, rfl, by decide, (zt2 (i := 1) rfl), rfl, rfl, by decide +kernel⟩
theorem fX_65 : zF "PrefixCodeIndex" 65 7 9 false .boolean := ⟨zRX, zTX, 12, rfl, by decide, (zt2 (i := 2) rfl), rfl, rfl, by decide +kernel⟩
theorem fX_68 : zF "PrefixCodeIndex" 68 7 10 false .int := ⟨zRX, zTX, 12, rfl, by decide, (zt2 (i := 3) rfl), rfl, rfl, by decide +kernel⟩
theorem fX_72 : zF "PrefixCodeIndex" 72 7 11 false .int := ⟨zRX, zTX, 12, rfl, by decide, (zt2 (i := 4) rfl), rfl, rfl, by decide +kernel⟩
theorem fX_115 : zF "PrefixCodeIndex" 115 0 1 false .int := ⟨zRC, zTC, 8, rfl, by decide, (zt1 (i := 92) rfl), rfl, rfl, by decide +kernel⟩
theorem fX_120 : zF "PrefixCodeIndex" 120 0 0 true (.array (.object "PrefixCodeIndex$Entry")) := ⟨zRC, zTC, 8, rfl, by decide, (zt1 (i := 88) rfl), rfl, rfl, by decide +kernel⟩
theorem fX_124 : zF "PrefixCodeIndex" 124 1 0 false .int := ⟨zRE, zTE, 7, rfl, by decide, (zt1 (i := 50) rfl), rfl, rfl, by decide +kernel⟩
theorem fX_131 : zF "PrefixCodeIndex" 131 1 1 false .int := ⟨zRE, zTE, 7, rfl, by decide, (zt1 (i := 52) rfl), rfl, rfl, by decide +kernel⟩
theorem fX_134 : zF "PrefixCodeIndex" 134 1 2 false .int := ⟨zRE, zTE, 7, rfl, by decide, (zt1 (i := 55) rfl), rfl, rfl, by decide +kernel⟩
theorem fX_137 : zF "PrefixCodeIndex" 137 1 3 false .int := ⟨zRE, zTE, 7, rfl, by decide, (zt1 (i := 58) rfl), rfl, rfl, by decide +kernel⟩
theorem fX_144 : zF "PrefixCodeIndex" 144 1 4 false .int := ⟨zRE, zTE, 7, rfl, by decide, (zt1 (i := 61) rfl), rfl, rfl, by decide +kernel⟩
theorem fX_147 : zF "PrefixCodeIndex" 147 1 5 false .int := ⟨zRE, zTE, 7, rfl, by decide, (zt1 (i := 65) rfl), rfl, rfl, by decide +kernel⟩
theorem fX_150 : zF "PrefixCodeIndex" 150 1 6 true (.array .int) := ⟨zRE, zTE, 7, rfl, by decide, (zt1 (i := 68) rfl), rfl, rfl, by decide +kernel⟩
theorem fX_172 : zF "PrefixCodeIndex" 172 0 3 false .int := ⟨zRC, zTC, 8, rfl, by decide, (zt1 (i := 95) rfl), rfl, rfl, by decide +kernel⟩
theorem fX_190 : zF "PrefixCodeIndex" 190 5 2 false .int := ⟨zRR, zTR, 3, rfl, by decide, (zt1 (i := 165) rfl), rfl, rfl, by decide +kernel⟩
theorem fX_193 : zF "PrefixCodeIndex" 193 5 0 true (.array .int) := ⟨zRR, zTR, 3, rfl, by decide, (zt1 (i := 161) rfl), rfl, rfl, by decide +kernel⟩
theorem fX_255 : zF "PrefixCodeIndex" 255 0 4 false .int := ⟨zRC, zTC, 8, rfl, by decide, (zt1 (i := 97) rfl), rfl, rfl, by decide +kernel⟩
theorem fX_258 : zF "PrefixCodeIndex" 258 0 5 false .int := ⟨zRC, zTC, 8, rfl, by decide, (zt1 (i := 99) rfl), rfl, rfl, by decide +kernel⟩
theorem fX_261 : zF "PrefixCodeIndex" 261 0 6 false .int := ⟨zRC, zTC, 8, rfl, by decide, (zt1 (i := 101) rfl), rfl, rfl, by decide +kernel⟩
theorem fX_264 : zF "PrefixCodeIndex" 264 0 7 false .int := ⟨zRC, zTC, 8, rfl, by decide, (zt1 (i := 103) rfl), rfl, rfl, by decide +kernel⟩
theorem fX_318 : zF "PrefixCodeIndex" 318 3 2 false .int := ⟨zRL, zTL, 3, rfl, by decide, (zt1 (i := 223) rfl), rfl, rfl, by decide +kernel⟩
theorem fX_324 : zF "PrefixCodeIndex" 324 5 1 true (.array .int) := ⟨zRR, zTR, 3, rfl, by decide, (zt1 (i := 163) rfl), rfl, rfl, by decide +kernel⟩
theorem fX_329 : zF "PrefixCodeIndex" 329 3 0 true (.array .char) := ⟨zRL, zTL, 3, rfl, by decide, (zt1 (i := 220) rfl), rfl, rfl, by decide +kernel⟩
theorem fX_335 : zF "PrefixCodeIndex" 335 4 1 false .int := ⟨zRP, zTP, 9, rfl, by decide, (zt1 (i := 181) rfl), rfl, rfl, by decide +kernel⟩
theorem fX_356 : zF "PrefixCodeIndex" 356 4 8 false .int := ⟨zRP, zTP, 9, rfl, by decide, (zt1 (i := 192) rfl), rfl, rfl, by decide +kernel⟩
theorem fX_359 : zF "PrefixCodeIndex" 359 4 5 true (.array .int) := ⟨zRP, zTP, 9, rfl, by decide, (zt1 (i := 186) rfl), rfl, rfl, by decide +kernel⟩
theorem fX_362 : zF "PrefixCodeIndex" 362 4 6 true (.array .int) := ⟨zRP, zTP, 9, rfl, by decide, (zt1 (i := 188) rfl), rfl, rfl, by decide +kernel⟩
theorem fX_365 : zF "PrefixCodeIndex" 365 4 7 true (.array .int) := ⟨zRP, zTP, 9, rfl, by decide, (zt1 (i := 190) rfl), rfl, rfl, by decide +kernel⟩
theorem fX_372 : zF "PrefixCodeIndex" 372 2 2 false .int := ⟨zRH, zTH, 3, rfl, by decide, (zt1 (i := 133) rfl), rfl, rfl, by decide +kernel⟩
theorem fC_11 : zF "PrefixCodeIndex$Contents" 11 0 0 true (.array (.object "PrefixCodeIndex$Entry")) := ⟨zRC, zTC, 8, rfl, by decide, (zt1 (i := 85) rfl), rfl, rfl, by decide +kernel⟩
theorem fC_17 : zF "PrefixCodeIndex$Contents" 17 0 1 false .int := ⟨zRC, zTC, 8, rfl, by decide, (zt1 (i := 89) rfl), rfl, rfl, by decide +kernel⟩
theorem fC_21 : zF "PrefixCodeIndex$Contents" 21 0 2 false .int := ⟨zRC, zTC, 8, rfl, by decide, (zt1 (i := 93) rfl), rfl, rfl, by decide +kernel⟩
theorem fC_24 : zF "PrefixCodeIndex$Contents" 24 0 3 false .int := ⟨zRC, zTC, 8, rfl, by decide, (zt1 (i := 94) rfl), rfl, rfl, by decide +kernel⟩
theorem fC_27 : zF "PrefixCodeIndex$Contents" 27 0 4 false .int := ⟨zRC, zTC, 8, rfl, by decide, (zt1 (i := 96) rfl), rfl, rfl, by decide +kernel⟩
theorem fC_30 : zF "PrefixCodeIndex$Contents" 30 0 5 false .int := ⟨zRC, zTC, 8, rfl, by decide, (zt1 (i := 98) rfl), rfl, rfl, by decide +kernel⟩
theorem fC_33 : zF "PrefixCodeIndex$Contents" 33 0 6 false .int := ⟨zRC, zTC, 8, rfl, by decide, (zt1 (i := 100) rfl), rfl, rfl, by decide +kernel⟩
theorem fC_36 : zF "PrefixCodeIndex$Contents" 36 0 7 false .int := ⟨zRC, zTC, 8, rfl, by decide, (zt1 (i := 102) rfl), rfl, rfl, by decide +kernel⟩
theorem fC_44 : zF "PrefixCodeIndex$Contents" 44 1 0 false .int := ⟨zRE, zTE, 7, rfl, by decide, (zt1 (i := 49) rfl), rfl, rfl, by decide +kernel⟩
theorem fC_95 : zF "PrefixCodeIndex$Contents" 95 1 5 false .int := ⟨zRE, zTE, 7, rfl, by decide, (zt1 (i := 63) rfl), rfl, rfl, by decide +kernel⟩
theorem fC_108 : zF "PrefixCodeIndex$Contents" 108 1 2 false .int := ⟨zRE, zTE, 7, rfl, by decide, (zt1 (i := 54) rfl), rfl, rfl, by decide +kernel⟩
theorem fC_118 : zF "PrefixCodeIndex$Contents" 118 1 4 false .int := ⟨zRE, zTE, 7, rfl, by decide, (zt1 (i := 60) rfl), rfl, rfl, by decide +kernel⟩
theorem fC_128 : zF "PrefixCodeIndex$Contents" 128 1 3 false .int := ⟨zRE, zTE, 7, rfl, by decide, (zt1 (i := 57) rfl), rfl, rfl, by decide +kernel⟩
theorem fE_9 : zF "PrefixCodeIndex$Entry" 9 1 6 true (.array .int) := ⟨zRE, zTE, 7, rfl, by decide, (zt1 (i := 66) rfl), rfl, rfl, by decide +kernel⟩
theorem fE_15 : zF "PrefixCodeIndex$Entry" 15 1 0 false .int := ⟨zRE, zTE, 7, rfl, by decide, (zt1 (i := 47) rfl), rfl, rfl, by decide +kernel⟩
theorem fE_19 : zF "PrefixCodeIndex$Entry" 19 1 1 false .int := ⟨zRE, zTE, 7, rfl, by decide, (zt1 (i := 51) rfl), rfl, rfl, by decide +kernel⟩
theorem fE_22 : zF "PrefixCodeIndex$Entry" 22 1 2 false .int := ⟨zRE, zTE, 7, rfl, by decide, (zt1 (i := 53) rfl), rfl, rfl, by decide +kernel⟩
theorem fE_25 : zF "PrefixCodeIndex$Entry" 25 1 3 false .int := ⟨zRE, zTE, 7, rfl, by decide, (zt1 (i := 56) rfl), rfl, rfl, by decide +kernel⟩
theorem fE_28 : zF "PrefixCodeIndex$Entry" 28 1 4 false .int := ⟨zRE, zTE, 7, rfl, by decide, (zt1 (i := 59) rfl), rfl, rfl, by decide +kernel⟩
theorem fE_31 : zF "PrefixCodeIndex$Entry" 31 1 5 false .int := ⟨zRE, zTE, 7, rfl, by decide, (zt1 (i := 62) rfl), rfl, rfl, by decide +kernel⟩
theorem fH_13 : zF "PrefixCodeIndex$History" 13 2 0 true (.array (.object "PrefixCodeIndex$Contents")) := ⟨zRH, zTH, 3, rfl, by decide, (zt1 (i := 130) rfl), rfl, rfl, by decide +kernel⟩
theorem fH_17 : zF "PrefixCodeIndex$History" 17 2 1 false .int := ⟨zRH, zTH, 3, rfl, by decide, (zt1 (i := 131) rfl), rfl, rfl, by decide +kernel⟩
theorem fH_21 : zF "PrefixCodeIndex$History" 21 2 2 false .int := ⟨zRH, zTH, 3, rfl, by decide, (zt1 (i := 132) rfl), rfl, rfl, by decide +kernel⟩
theorem fL_9 : zF "PrefixCodeIndex$Line" 9 3 0 true (.array .char) := ⟨zRL, zTL, 3, rfl, by decide, (zt1 (i := 219) rfl), rfl, rfl, by decide +kernel⟩
theorem fL_15 : zF "PrefixCodeIndex$Line" 15 3 1 true (.array .char) := ⟨zRL, zTL, 3, rfl, by decide, (zt1 (i := 221) rfl), rfl, rfl, by decide +kernel⟩
theorem fL_18 : zF "PrefixCodeIndex$Line" 18 3 2 false .int := ⟨zRL, zTL, 3, rfl, by decide, (zt1 (i := 222) rfl), rfl, rfl, by decide +kernel⟩
theorem fP_9 : zF "PrefixCodeIndex$Program" 9 4 0 true (.array .char) := ⟨zRP, zTP, 9, rfl, by decide, (zt1 (i := 179) rfl), rfl, rfl, by decide +kernel⟩
theorem fP_15 : zF "PrefixCodeIndex$Program" 15 4 1 false .int := ⟨zRP, zTP, 9, rfl, by decide, (zt1 (i := 180) rfl), rfl, rfl, by decide +kernel⟩
theorem fP_19 : zF "PrefixCodeIndex$Program" 19 4 2 false .int := ⟨zRP, zTP, 9, rfl, by decide, (zt1 (i := 182) rfl), rfl, rfl, by decide +kernel⟩
theorem fP_22 : zF "PrefixCodeIndex$Program" 22 4 3 false .int := ⟨zRP, zTP, 9, rfl, by decide, (zt1 (i := 183) rfl), rfl, rfl, by decide +kernel⟩
theorem fP_25 : zF "PrefixCodeIndex$Program" 25 4 4 false .int := ⟨zRP, zTP, 9, rfl, by decide, (zt1 (i := 184) rfl), rfl, rfl, by decide +kernel⟩
theorem fP_28 : zF "PrefixCodeIndex$Program" 28 4 5 true (.array .int) := ⟨zRP, zTP, 9, rfl, by decide, (zt1 (i := 185) rfl), rfl, rfl, by decide +kernel⟩
theorem fP_32 : zF "PrefixCodeIndex$Program" 32 4 6 true (.array .int) := ⟨zRP, zTP, 9, rfl, by decide, (zt1 (i := 187) rfl), rfl, rfl, by decide +kernel⟩
theorem fP_35 : zF "PrefixCodeIndex$Program" 35 4 7 true (.array .int) := ⟨zRP, zTP, 9, rfl, by decide, (zt1 (i := 189) rfl), rfl, rfl, by decide +kernel⟩
theorem fP_38 : zF "PrefixCodeIndex$Program" 38 4 8 false .int := ⟨zRP, zTP, 9, rfl, by decide, (zt1 (i := 191) rfl), rfl, rfl, by decide +kernel⟩
theorem fR_9 : zF "PrefixCodeIndex$Ranking" 9 5 0 true (.array .int) := ⟨zRR, zTR, 3, rfl, by decide, (zt1 (i := 160) rfl), rfl, rfl, by decide +kernel⟩
theorem fR_15 : zF "PrefixCodeIndex$Ranking" 15 5 1 true (.array .int) := ⟨zRR, zTR, 3, rfl, by decide, (zt1 (i := 162) rfl), rfl, rfl, by decide +kernel⟩
theorem fR_18 : zF "PrefixCodeIndex$Ranking" 18 5 2 false .int := ⟨zRR, zTR, 3, rfl, by decide, (zt1 (i := 164) rfl), rfl, rfl, by decide +kernel⟩
theorem fR_22 : zF "PrefixCodeIndex$Ranking" 22 0 1 false .int := ⟨zRC, zTC, 8, rfl, by decide, (zt1 (i := 90) rfl), rfl, rfl, by decide +kernel⟩
theorem fR_27 : zF "PrefixCodeIndex$Ranking" 27 0 0 true (.array (.object "PrefixCodeIndex$Entry")) := ⟨zRC, zTC, 8, rfl, by decide, (zt1 (i := 86) rfl), rfl, rfl, by decide +kernel⟩
theorem fR_37 : zF "PrefixCodeIndex$Ranking" 37 1 0 false .int := ⟨zRE, zTE, 7, rfl, by decide, (zt1 (i := 48) rfl), rfl, rfl, by decide +kernel⟩
theorem fT_11 : zF "PrefixCodeIndex$Trie" 11 6 0 true (.array .int) := ⟨zRT, zTT, 2, rfl, by decide, (zt1 (i := 147) rfl), rfl, rfl, by decide +kernel⟩
theorem fT_15 : zF "PrefixCodeIndex$Trie" 15 6 1 true (.array .int) := ⟨zRT, zTT, 2, rfl, by decide, (zt1 (i := 148) rfl), rfl, rfl, by decide +kernel⟩
theorem fT_35 : zF "PrefixCodeIndex$Trie" 35 0 1 false .int := ⟨zRC, zTC, 8, rfl, by decide, (zt1 (i := 91) rfl), rfl, rfl, by decide +kernel⟩
theorem fT_41 : zF "PrefixCodeIndex$Trie" 41 0 0 true (.array (.object "PrefixCodeIndex$Entry")) := ⟨zRC, zTC, 8, rfl, by decide, (zt1 (i := 87) rfl), rfl, rfl, by decide +kernel⟩
theorem fT_45 : zF "PrefixCodeIndex$Trie" 45 1 5 false .int := ⟨zRE, zTE, 7, rfl, by decide, (zt1 (i := 64) rfl), rfl, rfl, by decide +kernel⟩
theorem fT_50 : zF "PrefixCodeIndex$Trie" 50 1 6 true (.array .int) := ⟨zRE, zTE, 7, rfl, by decide, (zt1 (i := 67) rfl), rfl, rfl, by decide +kernel⟩
theorem fM_9 : zF "PrefixCodeIndexModel" 9 8 0 true (.array .int) := ⟨zRM, zTM, 21, rfl, by decide, (zt6 (i := 42) rfl), rfl, rfl, by decide +kernel⟩
theorem fM_13 : zF "PrefixCodeIndexModel" 13 8 1 true (.array .int) := ⟨zRM, zTM, 21, rfl, by decide, (zt6 (i := 43) rfl), rfl, rfl, by decide +kernel⟩
theorem fM_16 : zF "PrefixCodeIndexModel" 16 8 2 true (.array .int) := ⟨zRM, zTM, 21, rfl, by decide, (zt6 (i := 44) rfl), rfl, rfl, by decide +kernel⟩
theorem fM_19 : zF "PrefixCodeIndexModel" 19 8 4 true (.array .int) := ⟨zRM, zTM, 21, rfl, by decide, (zt6 (i := 46) rfl), rfl, rfl, by decide +kernel⟩
theorem fM_22 : zF "PrefixCodeIndexModel" 22 8 6 false .int := ⟨zRM, zTM, 21, rfl, by decide, (zt6 (i := 48) rfl), rfl, rfl, by decide +kernel⟩
theorem fM_26 : zF "PrefixCodeIndexModel" 26 8 7 false .int := ⟨zRM, zTM, 21, rfl, by decide, (zt6 (i := 49) rfl), rfl, rfl, by decide +kernel⟩
theorem fM_29 : zF "PrefixCodeIndexModel" 29 8 9 true (.array .int) := ⟨zRM, zTM, 21, rfl, by decide, (zt6 (i := 51) rfl), rfl, rfl, by decide +kernel⟩
theorem fM_32 : zF "PrefixCodeIndexModel" 32 8 11 true (.array .int) := ⟨zRM, zTM, 21, rfl, by decide, (zt6 (i := 53) rfl), rfl, rfl, by decide +kernel⟩
theorem fM_35 : zF "PrefixCodeIndexModel" 35 8 13 true (.array .char) := ⟨zRM, zTM, 21, rfl, by decide, (zt6 (i := 55) rfl), rfl, rfl, by decide +kernel⟩
theorem fM_39 : zF "PrefixCodeIndexModel" 39 8 14 true (.array .int) := ⟨zRM, zTM, 21, rfl, by decide, (zt6 (i := 56) rfl), rfl, rfl, by decide +kernel⟩
theorem fM_42 : zF "PrefixCodeIndexModel" 42 8 15 true (.array .int) := ⟨zRM, zTM, 21, rfl, by decide, (zt6 (i := 57) rfl), rfl, rfl, by decide +kernel⟩
theorem fM_45 : zF "PrefixCodeIndexModel" 45 8 8 false .int := ⟨zRM, zTM, 21, rfl, by decide, (zt6 (i := 50) rfl), rfl, rfl, by decide +kernel⟩
theorem fM_48 : zF "PrefixCodeIndexModel" 48 8 5 false .int := ⟨zRM, zTM, 21, rfl, by decide, (zt6 (i := 47) rfl), rfl, rfl, by decide +kernel⟩
theorem fM_180 : zF "PrefixCodeIndexModel" 180 8 12 false .int := ⟨zRM, zTM, 21, rfl, by decide, (zt6 (i := 54) rfl), rfl, rfl, by decide +kernel⟩
theorem fM_199 : zF "PrefixCodeIndexModel" 199 8 10 false .int := ⟨zRM, zTM, 21, rfl, by decide, (zt6 (i := 52) rfl), rfl, rfl, by decide +kernel⟩
theorem fM_202 : zF "PrefixCodeIndexModel" 202 8 17 false .int := ⟨zRM, zTM, 21, rfl, by decide, (zt6 (i := 59) rfl), rfl, rfl, by decide +kernel⟩
theorem fM_205 : zF "PrefixCodeIndexModel" 205 8 18 false .int := ⟨zRM, zTM, 21, rfl, by decide, (zt6 (i := 60) rfl), rfl, rfl, by decide +kernel⟩
theorem fM_208 : zF "PrefixCodeIndexModel" 208 8 19 false .boolean := ⟨zRM, zTM, 21, rfl, by decide, (zt6 (i := 61) rfl), rfl, rfl, by decide +kernel⟩
theorem fM_222 : zF "PrefixCodeIndexModel" 222 8 20 false .int := ⟨zRM, zTM, 21, rfl, by decide, (zt6 (i := 62) rfl), rfl, rfl, by decide +kernel⟩
theorem fM_234 : zF "PrefixCodeIndexModel" 234 8 16 false .int := ⟨zRM, zTM, 21, rfl, by decide, (zt6 (i := 58) rfl), rfl, rfl, by decide +kernel⟩
theorem fM_249 : zF "PrefixCodeIndexModel" 249 8 3 false .boolean := ⟨zRM, zTM, 21, rfl, by decide, (zt6 (i := 45) rfl), rfl, rfl, by decide +kernel⟩
theorem kX_3 : Cond.methodLink "PrefixCodeIndex" 3 ⟨"java/lang/Object", "<init>", "()V"⟩ ∈ lw_tbl := (zt1 (i := 31) rfl)
theorem kX_11 : Cond.methodLink "PrefixCodeIndex" 11 (zy mC_init) ∈ lw_tbl := (zt1 (i := 36) rfl)
theorem kX_21 : Cond.methodLink "PrefixCodeIndex" 21 (zy mH_init) ∈ lw_tbl := (zt1 (i := 123) rfl)
theorem kX_75 : Cond.methodLink "PrefixCodeIndex" 75 (zy mX_change) ∈ lw_tbl := (zt3 (i := 61) rfl)
theorem kX_79 : Cond.methodLink "PrefixCodeIndex" 79 (zy mH_mark) ∈ lw_tbl := (zt3 (i := 65) rfl)
theorem kX_83 : Cond.methodLink "PrefixCodeIndex" 83 (zy mC_perform) ∈ lw_tbl := (zt3 (i := 70) rfl)
theorem kX_86 : Cond.methodLink "PrefixCodeIndex" 86 (zy mX_throwFor) ∈ lw_tbl := (zt3 (i := 157) rfl)
theorem kX_90 : Cond.methodLink "PrefixCodeIndex" 90 (zy mH_keepMark) ∈ lw_tbl := (zt3 (i := 193) rfl)
theorem kX_97 : Cond.methodLink "PrefixCodeIndex" 97 ⟨"java/util/NoSuchElementException", "<init>", "(Ljava/lang/String;)V"⟩ ∈ lw_tbl := (zt3 (i := 6) rfl)
theorem kX_104 : Cond.methodLink "PrefixCodeIndex" 104 ⟨"java/lang/IllegalArgumentException", "<init>", "(Ljava/lang/String;)V"⟩ ∈ lw_tbl := (zt2 (i := 120) rfl)
theorem kX_109 : Cond.methodLink "PrefixCodeIndex" 109 ⟨"java/lang/IndexOutOfBoundsException", "<init>", "(Ljava/lang/String;)V"⟩ ∈ lw_tbl := (zt3 (i := 171) rfl)
theorem kX_114 : Cond.methodLink "PrefixCodeIndex" 114 ⟨"java/lang/IllegalStateException", "<init>", "(Ljava/lang/String;)V"⟩ ∈ lw_tbl := (zt3 (i := 187) rfl)
theorem kX_127 : Cond.methodLink "PrefixCodeIndex" 127 (zy mX_existing) ∈ lw_tbl := (zt2 (i := 228) rfl)
theorem kX_140 : Cond.methodLink "PrefixCodeIndex" 140 (zy mE_lifetime) ∈ lw_tbl := (zt4 (i := 79) rfl)
theorem kX_154 : Cond.methodLink "PrefixCodeIndex" 154 (zy mX_requireCode) ∈ lw_tbl := (zt2 (i := 197) rfl)
theorem kX_157 : Cond.methodLink "PrefixCodeIndex" 157 (zy mE_holds) ∈ lw_tbl := (zt4 (i := 108) rfl)
theorem kX_161 : Cond.methodLink "PrefixCodeIndex" 161 (zy mX_requirePrefix) ∈ lw_tbl := (zt2 (i := 66) rfl)
theorem kX_165 : Cond.methodLink "PrefixCodeIndex" 165 (zy mE_countWith) ∈ lw_tbl := (zt2 (i := 182) rfl)
theorem kX_169 : Cond.methodLink "PrefixCodeIndex" 169 (zy mC_find) ∈ lw_tbl := (zt2 (i := 232) rfl)
theorem kX_175 : Cond.methodLink "PrefixCodeIndex" 175 (zy mX_freshTrie) ∈ lw_tbl := (zt2 (i := 146) rfl)
theorem kX_179 : Cond.methodLink "PrefixCodeIndex" 179 (zy mT_nodeOf) ∈ lw_tbl := (zt2 (i := 174) rfl)
theorem kX_182 : Cond.methodLink "PrefixCodeIndex" 182 (zy mT_entriesAt) ∈ lw_tbl := (zt2 (i := 177) rfl)
theorem kX_186 : Cond.methodLink "PrefixCodeIndex" 186 (zy mR_order) ∈ lw_tbl := (zt4 (i := 138) rfl)
theorem kX_196 : Cond.methodLink "PrefixCodeIndex" 196 (zy mE_score) ∈ lw_tbl := (zt4 (i := 160) rfl)
theorem kX_199 : Cond.methodLink "PrefixCodeIndex" 199 (zy mT_codesAt) ∈ lw_tbl := (zt4 (i := 168) rfl)
theorem kX_204 : Cond.methodLink "PrefixCodeIndex" 204 (zy mT_branchesAt) ∈ lw_tbl := (zt4 (i := 177) rfl)
theorem kX_207 : Cond.methodLink "PrefixCodeIndex" 207 (zy mT_depthReachedBy) ∈ lw_tbl := (zt2 (i := 204) rfl)
theorem kX_210 : Cond.methodLink "PrefixCodeIndex" 210 (zy mX_commonDigits) ∈ lw_tbl := (zt2 (i := 216) rfl)
theorem kX_213 : Cond.methodLink "PrefixCodeIndex" 213 (zy mN_max) ∈ lw_tbl := (zt2 (i := 217) rfl)
theorem kX_220 : Cond.methodLink "PrefixCodeIndex" 220 (zy mE_lowestAbove) ∈ lw_tbl := (zt4 (i := 203) rfl)
theorem kX_223 : Cond.methodLink "PrefixCodeIndex" 223 (zy mN_min) ∈ lw_tbl := (zt4 (i := 207) rfl)
theorem kX_228 : Cond.methodLink "PrefixCodeIndex" 228 (zy mT_commonestLeaf) ∈ lw_tbl := (zt4 (i := 216) rfl)
theorem kX_233 : Cond.methodLink "PrefixCodeIndex" 233 (zy mE_countShared) ∈ lw_tbl := (zt4 (i := 228) rfl)
theorem kX_239 : Cond.methodLink "PrefixCodeIndex" 239 (zy mT_build) ∈ lw_tbl := (zt2 (i := 150) rfl)
theorem kX_242 : Cond.methodLink "PrefixCodeIndex" 242 (zy mE_daysLeft) ∈ lw_tbl := (zt3 (i := 12) rfl)
theorem kX_245 : Cond.methodLink "PrefixCodeIndex" 245 (zy mE_copyFrom) ∈ lw_tbl := (zt3 (i := 24) rfl)
theorem kX_249 : Cond.methodLink "PrefixCodeIndex" 249 (zy mE_hasFaded) ∈ lw_tbl := (zt3 (i := 31) rfl)
theorem kX_271 : Cond.methodLink "PrefixCodeIndex" 271 ⟨"java/lang/ArithmeticException", "<init>", "(Ljava/lang/String;)V"⟩ ∈ lw_tbl := (zt5 (i := 36) rfl)
theorem kX_274 : Cond.methodLink "PrefixCodeIndex" 274 (zy mX_resultCountsAgree) ∈ lw_tbl := (zt2 (i := 58) rfl)
theorem kX_277 : Cond.methodLink "PrefixCodeIndex" 277 (zy mX_sharedDigitsAgree) ∈ lw_tbl := (zt2 (i := 189) rfl)
theorem kX_280 : Cond.methodLink "PrefixCodeIndex" 280 (zy mX_fadingAgrees) ∈ lw_tbl := (zt2 (i := 220) rfl)
theorem kX_283 : Cond.methodLink "PrefixCodeIndex" 283 (zy mX_totalsAgree) ∈ lw_tbl := (zt3 (i := 35) rfl)
theorem kX_286 : Cond.methodLink "PrefixCodeIndex" 286 (zy mX_resultCount) ∈ lw_tbl := (zt2 (i := 62) rfl)
theorem kX_289 : Cond.methodLink "PrefixCodeIndex" 289 (zy mX_resultCountByScan) ∈ lw_tbl := (zt2 (i := 178) rfl)
theorem kX_292 : Cond.methodLink "PrefixCodeIndex" 292 (zy mX_sharedDigits) ∈ lw_tbl := (zt2 (i := 193) rfl)
theorem kX_295 : Cond.methodLink "PrefixCodeIndex" 295 (zy mX_sharedDigitsByScan) ∈ lw_tbl := (zt2 (i := 212) rfl)
theorem kX_298 : Cond.methodLink "PrefixCodeIndex" 298 (zy mX_daysUntilFaded) ∈ lw_tbl := (zt2 (i := 224) rfl)
theorem kX_301 : Cond.methodLink "PrefixCodeIndex" 301 (zy mX_daysUntilFadedByDays) ∈ lw_tbl := (zt3 (i := 20) rfl)
theorem kX_304 : Cond.methodLink "PrefixCodeIndex" 304 (zy mL_clear) ∈ lw_tbl := (zt5 (i := 52) rfl)
theorem kX_307 : Cond.methodLink "PrefixCodeIndex" 307 (zy mL_putField) ∈ lw_tbl := (zt5 (i := 56) rfl)
theorem kX_311 : Cond.methodLink "PrefixCodeIndex" 311 (zy mL_put) ∈ lw_tbl := (zt5 (i := 74) rfl)
theorem kX_315 : Cond.methodLink "PrefixCodeIndex" 315 (zy mL_putCode) ∈ lw_tbl := (zt5 (i := 75) rfl)
theorem kX_321 : Cond.methodLink "PrefixCodeIndex" 321 (zy mL_putNumber) ∈ lw_tbl := (zt5 (i := 87) rfl)
theorem kX_338 : Cond.methodLink "PrefixCodeIndex" 338 (zy mP_add) ∈ lw_tbl := (zt5 (i := 105) rfl)
theorem kX_342 : Cond.methodLink "PrefixCodeIndex" 342 (zy mP_read) ∈ lw_tbl := (zt5 (i := 116) rfl)
theorem kX_345 : Cond.methodLink "PrefixCodeIndex" 345 (zy mP_clear) ∈ lw_tbl := (zt5 (i := 222) rfl)
theorem kX_348 : Cond.methodLink "PrefixCodeIndex" 348 (zy mX_firstFailing) ∈ lw_tbl := (zt5 (i := 227) rfl)
theorem kX_351 : Cond.methodLink "PrefixCodeIndex" 351 (zy mH_returnToMark) ∈ lw_tbl := (zt5 (i := 231) rfl)
theorem kX_375 : Cond.methodLink "PrefixCodeIndex" 375 (zy mH_takeBack) ∈ lw_tbl := (zt6 (i := 20) rfl)
theorem kX_378 : Cond.methodLink "PrefixCodeIndex" 378 (zy mC_copyFrom) ∈ lw_tbl := (zt3 (i := 47) rfl)
theorem kX_382 : Cond.methodLink "PrefixCodeIndex" 382 (zy mH_forget) ∈ lw_tbl := (zt6 (i := 32) rfl)
theorem kX_385 : Cond.methodLink "PrefixCodeIndex" 385 (zy mX_isCode) ∈ lw_tbl := (zt2 (i := 200) rfl)
theorem kX_388 : Cond.methodLink "PrefixCodeIndex" 388 (zy mX_isPrefix) ∈ lw_tbl := (zt2 (i := 69) rfl)
theorem kX_394 : Cond.methodLink "PrefixCodeIndex" 394 (zy mX_withoutEnd) ∈ lw_tbl := (zt2 (i := 72) rfl)
theorem kC_3 : Cond.methodLink "PrefixCodeIndex$Contents" 3 ⟨"java/lang/Object", "<init>", "()V"⟩ ∈ lw_tbl := (zt1 (i := 39) rfl)
theorem kC_40 : Cond.methodLink "PrefixCodeIndex$Contents" 40 (zy mE_copyFrom) ∈ lw_tbl := (zt3 (i := 51) rfl)
theorem kC_47 : Cond.methodLink "PrefixCodeIndex$Contents" 47 (zy mC_putEntry) ∈ lw_tbl := (zt3 (i := 74) rfl)
theorem kC_51 : Cond.methodLink "PrefixCodeIndex$Contents" 51 (zy mC_putCode) ∈ lw_tbl := (zt3 (i := 82) rfl)
theorem kC_55 : Cond.methodLink "PrefixCodeIndex$Contents" 55 (zy mC_takeCode) ∈ lw_tbl := (zt3 (i := 96) rfl)
theorem kC_58 : Cond.methodLink "PrefixCodeIndex$Contents" 58 (zy mC_takeEntry) ∈ lw_tbl := (zt3 (i := 104) rfl)
theorem kC_61 : Cond.methodLink "PrefixCodeIndex$Contents" 61 (zy mC_freshen) ∈ lw_tbl := (zt3 (i := 112) rfl)
theorem kC_64 : Cond.methodLink "PrefixCodeIndex$Contents" 64 (zy mC_mergeInto) ∈ lw_tbl := (zt3 (i := 116) rfl)
theorem kC_67 : Cond.methodLink "PrefixCodeIndex$Contents" 67 (zy mC_openSegment) ∈ lw_tbl := (zt3 (i := 134) rfl)
theorem kC_71 : Cond.methodLink "PrefixCodeIndex$Contents" 71 (zy mC_joinWithNext) ∈ lw_tbl := (zt3 (i := 138) rfl)
theorem kC_74 : Cond.methodLink "PrefixCodeIndex$Contents" 74 (zy mC_hitAll) ∈ lw_tbl := (zt3 (i := 142) rfl)
theorem kC_77 : Cond.methodLink "PrefixCodeIndex$Contents" 77 (zy mC_passDays) ∈ lw_tbl := (zt3 (i := 148) rfl)
theorem kC_80 : Cond.methodLink "PrefixCodeIndex$Contents" 80 (zy mE_begin) ∈ lw_tbl := (zt3 (i := 78) rfl)
theorem kC_84 : Cond.methodLink "PrefixCodeIndex$Contents" 84 (zy mC_find) ∈ lw_tbl := (zt3 (i := 86) rfl)
theorem kC_92 : Cond.methodLink "PrefixCodeIndex$Contents" 92 (zy mE_holds) ∈ lw_tbl := (zt3 (i := 88) rfl)
theorem kC_98 : Cond.methodLink "PrefixCodeIndex$Contents" 98 (zy mE_insert) ∈ lw_tbl := (zt3 (i := 92) rfl)
theorem kC_102 : Cond.methodLink "PrefixCodeIndex$Contents" 102 (zy mE_delete) ∈ lw_tbl := (zt3 (i := 100) rfl)
theorem kC_105 : Cond.methodLink "PrefixCodeIndex$Contents" 105 (zy mC_discard) ∈ lw_tbl := (zt3 (i := 108) rfl)
theorem kC_111 : Cond.methodLink "PrefixCodeIndex$Contents" 111 (zy mE_countShared) ∈ lw_tbl := (zt3 (i := 120) rfl)
theorem kC_115 : Cond.methodLink "PrefixCodeIndex$Contents" 115 (zy mE_absorb) ∈ lw_tbl := (zt3 (i := 125) rfl)
theorem kC_125 : Cond.methodLink "PrefixCodeIndex$Contents" 125 (zy mE_countWith) ∈ lw_tbl := (zt3 (i := 147) rfl)
theorem kC_131 : Cond.methodLink "PrefixCodeIndex$Contents" 131 (zy mC_passDay) ∈ lw_tbl := (zt3 (i := 152) rfl)
theorem kC_134 : Cond.methodLink "PrefixCodeIndex$Contents" 134 (zy mE_hasFaded) ∈ lw_tbl := (zt3 (i := 156) rfl)
theorem kE_3 : Cond.methodLink "PrefixCodeIndex$Entry" 3 ⟨"java/lang/Object", "<init>", "()V"⟩ ∈ lw_tbl := (zt1 (i := 46) rfl)
theorem kE_34 : Cond.methodLink "PrefixCodeIndex$Entry" 34 ⟨"java/lang/System", "arraycopy", "(Ljava/lang/Object;ILjava/lang/Object;II)V"⟩ ∈ lw_tbl := (zt3 (i := 28) rfl)
theorem kE_40 : Cond.methodLink "PrefixCodeIndex$Entry" 40 (zy mE_lifetime) ∈ lw_tbl := (zt3 (i := 16) rfl)
theorem kE_44 : Cond.methodLink "PrefixCodeIndex$Entry" 44 (zy mE_countWith) ∈ lw_tbl := (zt4 (i := 147) rfl)
theorem kE_52 : Cond.methodLink "PrefixCodeIndex$Entry" 52 (zy mE_holds) ∈ lw_tbl := (zt3 (i := 124) rfl)
theorem kE_56 : Cond.methodLink "PrefixCodeIndex$Entry" 56 (zy mE_insert) ∈ lw_tbl := (zt3 (i := 129) rfl)
theorem kE_60 : Cond.methodLink "PrefixCodeIndex$Entry" 60 (zy mN_max) ∈ lw_tbl := (zt3 (i := 130) rfl)
theorem kE_65 : Cond.methodLink "PrefixCodeIndex$Entry" 65 (zy mN_min) ∈ lw_tbl := (zt3 (i := 131) rfl)
theorem kH_3 : Cond.methodLink "PrefixCodeIndex$History" 3 ⟨"java/lang/Object", "<init>", "()V"⟩ ∈ lw_tbl := (zt1 (i := 126) rfl)
theorem kH_24 : Cond.methodLink "PrefixCodeIndex$History" 24 (zy mC_init) ∈ lw_tbl := (zt1 (i := 129) rfl)
theorem kH_25 : Cond.methodLink "PrefixCodeIndex$History" 25 (zy mC_copyFrom) ∈ lw_tbl := (zt3 (i := 69) rfl)
theorem kH_29 : Cond.methodLink "PrefixCodeIndex$History" 29 (zy mN_min) ∈ lw_tbl := (zt3 (i := 197) rfl)
theorem kL_3 : Cond.methodLink "PrefixCodeIndex$Line" 3 ⟨"java/lang/Object", "<init>", "()V"⟩ ∈ lw_tbl := (zt1 (i := 218) rfl)
theorem kL_22 : Cond.methodLink "PrefixCodeIndex$Line" 22 (zy mL_put) ∈ lw_tbl := (zt5 (i := 60) rfl)
theorem kL_26 : Cond.methodLink "PrefixCodeIndex$Line" 26 (zy mL_putNumber) ∈ lw_tbl := (zt5 (i := 64) rfl)
theorem kL_30 : Cond.methodLink "PrefixCodeIndex$Line" 30 (zy mL_digitOf) ∈ lw_tbl := (zt5 (i := 68) rfl)
theorem kL_38 : Cond.methodLink "PrefixCodeIndex$Line" 38 (zy mN_abs) ∈ lw_tbl := (zt5 (i := 71) rfl)
theorem kP_3 : Cond.methodLink "PrefixCodeIndex$Program" 3 ⟨"java/lang/Object", "<init>", "()V"⟩ ∈ lw_tbl := (zt1 (i := 178) rfl)
theorem kP_41 : Cond.methodLink "PrefixCodeIndex$Program" 41 (zy mP_readCommand) ∈ lw_tbl := (zt5 (i := 120) rfl)
theorem kP_45 : Cond.methodLink "PrefixCodeIndex$Program" 45 (zy mP_stands) ∈ lw_tbl := (zt5 (i := 206) rfl)
theorem kP_49 : Cond.methodLink "PrefixCodeIndex$Program" 49 (zy mP_readWord) ∈ lw_tbl := (zt5 (i := 124) rfl)
theorem kP_53 : Cond.methodLink "PrefixCodeIndex$Program" 53 (zy mP_readArguments) ∈ lw_tbl := (zt5 (i := 194) rfl)
theorem kP_57 : Cond.methodLink "PrefixCodeIndex$Program" 57 (zy mP_wordOf) ∈ lw_tbl := (zt5 (i := 128) rfl)
theorem kP_61 : Cond.methodLink "PrefixCodeIndex$Program" 61 (zy mP_matchedLetters) ∈ lw_tbl := (zt5 (i := 141) rfl)
theorem kP_65 : Cond.methodLink "PrefixCodeIndex$Program" 65 (zy mS_length) ∈ lw_tbl := (zt5 (i := 145) rfl)
theorem kP_69 : Cond.methodLink "PrefixCodeIndex$Program" 69 (zy mN_max) ∈ lw_tbl := (zt5 (i := 193) rfl)
theorem kP_75 : Cond.methodLink "PrefixCodeIndex$Program" 75 (zy mS_charAt) ∈ lw_tbl := (zt5 (i := 155) rfl)
theorem kP_99 : Cond.methodLink "PrefixCodeIndex$Program" 99 (zy mP_readFirst) ∈ lw_tbl := (zt5 (i := 198) rfl)
theorem kP_102 : Cond.methodLink "PrefixCodeIndex$Program" 102 (zy mP_readSecond) ∈ lw_tbl := (zt5 (i := 214) rfl)
theorem kP_105 : Cond.methodLink "PrefixCodeIndex$Program" 105 (zy mP_readPrefix) ∈ lw_tbl := (zt5 (i := 218) rfl)
theorem kP_108 : Cond.methodLink "PrefixCodeIndex$Program" 108 (zy mP_readNumber) ∈ lw_tbl := (zt5 (i := 202) rfl)
theorem kP_111 : Cond.methodLink "PrefixCodeIndex$Program" 111 (zy mP_digitStands) ∈ lw_tbl := (zt5 (i := 210) rfl)
theorem kR_3 : Cond.methodLink "PrefixCodeIndex$Ranking" 3 ⟨"java/lang/Object", "<init>", "()V"⟩ ∈ lw_tbl := (zt1 (i := 159) rfl)
theorem kR_31 : Cond.methodLink "PrefixCodeIndex$Ranking" 31 (zy mE_countWith) ∈ lw_tbl := (zt4 (i := 142) rfl)
theorem kR_40 : Cond.methodLink "PrefixCodeIndex$Ranking" 40 (zy mE_score) ∈ lw_tbl := (zt4 (i := 143) rfl)
theorem kR_43 : Cond.methodLink "PrefixCodeIndex$Ranking" 43 (zy mR_place) ∈ lw_tbl := (zt4 (i := 148) rfl)
theorem kT_5 : Cond.methodLink "PrefixCodeIndex$Trie" 5 ⟨"java/lang/Object", "<init>", "()V"⟩ ∈ lw_tbl := (zt1 (i := 146) rfl)
theorem kT_18 : Cond.methodLink "PrefixCodeIndex$Trie" 18 (zy mT_digitAt) ∈ lw_tbl := (zt2 (i := 168) rfl)
theorem kT_22 : Cond.methodLink "PrefixCodeIndex$Trie" 22 (zy mT_child) ∈ lw_tbl := (zt2 (i := 171) rfl)
theorem kT_25 : Cond.methodLink "PrefixCodeIndex$Trie" 25 (zy mT_codesAt) ∈ lw_tbl := (zt2 (i := 208) rfl)
theorem kT_29 : Cond.methodLink "PrefixCodeIndex$Trie" 29 (zy mA_fill) ∈ lw_tbl := (zt2 (i := 154) rfl)
theorem kT_56 : Cond.methodLink "PrefixCodeIndex$Trie" 56 (zy mT_countCode) ∈ lw_tbl := (zt2 (i := 160) rfl)
theorem kT_60 : Cond.methodLink "PrefixCodeIndex$Trie" 60 (zy mT_entriesAt) ∈ lw_tbl := (zt2 (i := 164) rfl)
theorem kW_7 : Cond.methodLink "PrefixCodeIndexLaw" 7 (zy mX_addEntry) ∈ lw_tbl := (zt3 (i := 57) rfl)
theorem kW_17 : Cond.methodLink "PrefixCodeIndexLaw" 17 (zy mX_addCode) ∈ lw_tbl := (zt3 (i := 202) rfl)
theorem kW_23 : Cond.methodLink "PrefixCodeIndexLaw" 23 (zy mX_removeCode) ∈ lw_tbl := (zt3 (i := 209) rfl)
theorem kW_26 : Cond.methodLink "PrefixCodeIndexLaw" 26 (zy mX_removeEntry) ∈ lw_tbl := (zt3 (i := 216) rfl)
theorem kW_29 : Cond.methodLink "PrefixCodeIndexLaw" 29 (zy mX_touch) ∈ lw_tbl := (zt3 (i := 223) rfl)
theorem kW_32 : Cond.methodLink "PrefixCodeIndexLaw" 32 (zy mX_merge) ∈ lw_tbl := (zt3 (i := 230) rfl)
theorem kW_35 : Cond.methodLink "PrefixCodeIndexLaw" 35 (zy mX_startSegment) ∈ lw_tbl := (zt3 (i := 237) rfl)
theorem kW_39 : Cond.methodLink "PrefixCodeIndexLaw" 39 (zy mX_joinSegments) ∈ lw_tbl := (zt4 (i := 25) rfl)
theorem kW_44 : Cond.methodLink "PrefixCodeIndexLaw" 44 (zy mX_search) ∈ lw_tbl := (zt4 (i := 32) rfl)
theorem kW_47 : Cond.methodLink "PrefixCodeIndexLaw" 47 (zy mX_pass) ∈ lw_tbl := (zt4 (i := 39) rfl)
theorem kW_50 : Cond.methodLink "PrefixCodeIndexLaw" 50 (zy mX_idAt) ∈ lw_tbl := (zt4 (i := 46) rfl)
theorem kW_53 : Cond.methodLink "PrefixCodeIndexLaw" 53 (zy mX_weightOf) ∈ lw_tbl := (zt4 (i := 54) rfl)
theorem kW_56 : Cond.methodLink "PrefixCodeIndexLaw" 56 (zy mX_ageOf) ∈ lw_tbl := (zt4 (i := 61) rfl)
theorem kW_59 : Cond.methodLink "PrefixCodeIndexLaw" 59 (zy mX_hitsOf) ∈ lw_tbl := (zt4 (i := 68) rfl)
theorem kW_62 : Cond.methodLink "PrefixCodeIndexLaw" 62 (zy mX_lifetimeOf) ∈ lw_tbl := (zt4 (i := 75) rfl)
theorem kW_65 : Cond.methodLink "PrefixCodeIndexLaw" 65 (zy mX_segmentOf) ∈ lw_tbl := (zt4 (i := 83) rfl)
theorem kW_68 : Cond.methodLink "PrefixCodeIndexLaw" 68 (zy mX_codeCount) ∈ lw_tbl := (zt4 (i := 90) rfl)
theorem kW_71 : Cond.methodLink "PrefixCodeIndexLaw" 71 (zy mX_codeAt) ∈ lw_tbl := (zt4 (i := 97) rfl)
theorem kW_74 : Cond.methodLink "PrefixCodeIndexLaw" 74 (zy mX_hasCode) ∈ lw_tbl := (zt4 (i := 104) rfl)
theorem kW_78 : Cond.methodLink "PrefixCodeIndexLaw" 78 (zy mX_matches) ∈ lw_tbl := (zt4 (i := 112) rfl)
theorem kW_82 : Cond.methodLink "PrefixCodeIndexLaw" 82 (zy mX_entriesIn) ∈ lw_tbl := (zt4 (i := 119) rfl)
theorem kW_85 : Cond.methodLink "PrefixCodeIndexLaw" 85 (zy mX_resultCount) ∈ lw_tbl := (zt4 (i := 126) rfl)
theorem kW_88 : Cond.methodLink "PrefixCodeIndexLaw" 88 (zy mX_resultCountByScan) ∈ lw_tbl := (zt4 (i := 130) rfl)
theorem kW_91 : Cond.methodLink "PrefixCodeIndexLaw" 91 (zy mX_resultAt) ∈ lw_tbl := (zt4 (i := 134) rfl)
theorem kW_95 : Cond.methodLink "PrefixCodeIndexLaw" 95 (zy mX_scoreOf) ∈ lw_tbl := (zt4 (i := 156) rfl)
theorem kW_98 : Cond.methodLink "PrefixCodeIndexLaw" 98 (zy mX_codesWith) ∈ lw_tbl := (zt4 (i := 164) rfl)
theorem kW_101 : Cond.methodLink "PrefixCodeIndexLaw" 101 (zy mX_nextDigits) ∈ lw_tbl := (zt4 (i := 172) rfl)
theorem kW_104 : Cond.methodLink "PrefixCodeIndexLaw" 104 (zy mX_sharedDigits) ∈ lw_tbl := (zt4 (i := 184) rfl)
theorem kW_107 : Cond.methodLink "PrefixCodeIndexLaw" 107 (zy mX_sharedDigitsByScan) ∈ lw_tbl := (zt4 (i := 188) rfl)
theorem kW_110 : Cond.methodLink "PrefixCodeIndexLaw" 110 (zy mX_entriesWith) ∈ lw_tbl := (zt4 (i := 192) rfl)
theorem kW_113 : Cond.methodLink "PrefixCodeIndexLaw" 113 (zy mX_codeAfter) ∈ lw_tbl := (zt4 (i := 199) rfl)
theorem kW_116 : Cond.methodLink "PrefixCodeIndexLaw" 116 (zy mX_commonestCode) ∈ lw_tbl := (zt4 (i := 212) rfl)
theorem kW_119 : Cond.methodLink "PrefixCodeIndexLaw" 119 (zy mX_sharedCodes) ∈ lw_tbl := (zt4 (i := 224) rfl)
theorem kW_122 : Cond.methodLink "PrefixCodeIndexLaw" 122 (zy mX_mostSimilar) ∈ lw_tbl := (zt4 (i := 232) rfl)
theorem kW_125 : Cond.methodLink "PrefixCodeIndexLaw" 125 (zy mX_daysUntilFaded) ∈ lw_tbl := (zt5 (i := 0) rfl)
theorem kW_128 : Cond.methodLink "PrefixCodeIndexLaw" 128 (zy mX_daysUntilFadedByDays) ∈ lw_tbl := (zt5 (i := 4) rfl)
theorem kW_131 : Cond.methodLink "PrefixCodeIndexLaw" 131 (zy mX_fadingWithin) ∈ lw_tbl := (zt5 (i := 8) rfl)
theorem kW_134 : Cond.methodLink "PrefixCodeIndexLaw" 134 (zy mX_meanCodes) ∈ lw_tbl := (zt5 (i := 30) rfl)
theorem kW_140 : Cond.methodLink "PrefixCodeIndexLaw" 140 (zy mX_fadedShare) ∈ lw_tbl := (zt5 (i := 40) rfl)
theorem kW_144 : Cond.methodLink "PrefixCodeIndexLaw" 144 (zy mX_formatEntry) ∈ lw_tbl := (zt5 (i := 48) rfl)
theorem kW_147 : Cond.methodLink "PrefixCodeIndexLaw" 147 (zy mX_formatResults) ∈ lw_tbl := (zt5 (i := 83) rfl)
theorem kW_150 : Cond.methodLink "PrefixCodeIndexLaw" 150 (zy mX_lineChar) ∈ lw_tbl := (zt5 (i := 91) rfl)
theorem kW_154 : Cond.methodLink "PrefixCodeIndexLaw" 154 (zy mX_append) ∈ lw_tbl := (zt5 (i := 99) rfl)
theorem kW_158 : Cond.methodLink "PrefixCodeIndexLaw" 158 (zy mX_run) ∈ lw_tbl := (zt5 (i := 112) rfl)
theorem kW_161 : Cond.methodLink "PrefixCodeIndexLaw" 161 (zy mX_errorPosition) ∈ lw_tbl := (zt5 (i := 239) rfl)
theorem kW_164 : Cond.methodLink "PrefixCodeIndexLaw" 164 (zy mX_failedCommand) ∈ lw_tbl := (zt6 (i := 7) rfl)
theorem kW_167 : Cond.methodLink "PrefixCodeIndexLaw" 167 (zy mX_undo) ∈ lw_tbl := (zt6 (i := 15) rfl)
theorem kW_170 : Cond.methodLink "PrefixCodeIndexLaw" 170 (zy mX_restore) ∈ lw_tbl := (zt6 (i := 27) rfl)
theorem kW_173 : Cond.methodLink "PrefixCodeIndexLaw" 173 (zy mX_init) ∈ lw_tbl := (zt1 (i := 28) rfl)
theorem kW_176 : Cond.methodLink "PrefixCodeIndexLaw" 176 (zy mM_init) ∈ lw_tbl := (zt6 (i := 38) rfl)
theorem kW_177 : Cond.methodLink "PrefixCodeIndexLaw" 177 (zy mW_addEntry) ∈ lw_tbl := (zt3 (i := 52) rfl)
theorem kW_182 : Cond.methodLink "PrefixCodeIndexLaw" 182 (zy mM_addEntry) ∈ lw_tbl := (zt6 (i := 110) rfl)
theorem kW_183 : Cond.methodLink "PrefixCodeIndexLaw" 183 (zy mM_thrown) ∈ lw_tbl := (zt6 (i := 106) rfl)
theorem kW_186 : Cond.methodLink "PrefixCodeIndexLaw" 186 (zy mW_addCode) ∈ lw_tbl := (zt3 (i := 198) rfl)
theorem kW_189 : Cond.methodLink "PrefixCodeIndexLaw" 189 (zy mM_addCode) ∈ lw_tbl := (zt6 (i := 137) rfl)
theorem kW_190 : Cond.methodLink "PrefixCodeIndexLaw" 190 (zy mW_removeCode) ∈ lw_tbl := (zt3 (i := 206) rfl)
theorem kW_192 : Cond.methodLink "PrefixCodeIndexLaw" 192 (zy mM_removeCode) ∈ lw_tbl := (zt6 (i := 168) rfl)
theorem kW_193 : Cond.methodLink "PrefixCodeIndexLaw" 193 (zy mW_removeEntry) ∈ lw_tbl := (zt3 (i := 213) rfl)
theorem kW_195 : Cond.methodLink "PrefixCodeIndexLaw" 195 (zy mM_removeEntry) ∈ lw_tbl := (zt6 (i := 176) rfl)
theorem kW_196 : Cond.methodLink "PrefixCodeIndexLaw" 196 (zy mW_touch) ∈ lw_tbl := (zt3 (i := 220) rfl)
theorem kW_198 : Cond.methodLink "PrefixCodeIndexLaw" 198 (zy mM_touch) ∈ lw_tbl := (zt6 (i := 188) rfl)
theorem kW_199 : Cond.methodLink "PrefixCodeIndexLaw" 199 (zy mW_merge) ∈ lw_tbl := (zt3 (i := 227) rfl)
theorem kW_201 : Cond.methodLink "PrefixCodeIndexLaw" 201 (zy mM_merge) ∈ lw_tbl := (zt6 (i := 196) rfl)
theorem kW_202 : Cond.methodLink "PrefixCodeIndexLaw" 202 (zy mW_startSegment) ∈ lw_tbl := (zt3 (i := 234) rfl)
theorem kW_205 : Cond.methodLink "PrefixCodeIndexLaw" 205 (zy mM_startSegment) ∈ lw_tbl := (zt6 (i := 210) rfl)
theorem kW_206 : Cond.methodLink "PrefixCodeIndexLaw" 206 (zy mW_joinSegments) ∈ lw_tbl := (zt4 (i := 1) rfl)
theorem kW_208 : Cond.methodLink "PrefixCodeIndexLaw" 208 (zy mM_joinSegments) ∈ lw_tbl := (zt6 (i := 218) rfl)
theorem kW_209 : Cond.methodLink "PrefixCodeIndexLaw" 209 (zy mW_search) ∈ lw_tbl := (zt4 (i := 29) rfl)
theorem kW_211 : Cond.methodLink "PrefixCodeIndexLaw" 211 (zy mM_search) ∈ lw_tbl := (zt6 (i := 226) rfl)
theorem kW_212 : Cond.methodLink "PrefixCodeIndexLaw" 212 (zy mW_pass) ∈ lw_tbl := (zt4 (i := 36) rfl)
theorem kW_214 : Cond.methodLink "PrefixCodeIndexLaw" 214 (zy mM_pass) ∈ lw_tbl := (zt6 (i := 237) rfl)
theorem kW_215 : Cond.methodLink "PrefixCodeIndexLaw" 215 (zy mX_entryCount) ∈ lw_tbl := (zt2 (i := 30) rfl)
theorem kW_218 : Cond.methodLink "PrefixCodeIndexLaw" 218 (zy mM_entryCount) ∈ lw_tbl := (zt7 (i := 10) rfl)
theorem kW_219 : Cond.methodLink "PrefixCodeIndexLaw" 219 (zy mW_idAt) ∈ lw_tbl := (zt4 (i := 43) rfl)
theorem kW_221 : Cond.methodLink "PrefixCodeIndexLaw" 221 (zy mM_idAt) ∈ lw_tbl := (zt7 (i := 18) rfl)
theorem kW_222 : Cond.methodLink "PrefixCodeIndexLaw" 222 (zy mW_weightOf) ∈ lw_tbl := (zt4 (i := 51) rfl)
theorem kW_224 : Cond.methodLink "PrefixCodeIndexLaw" 224 (zy mM_weightOf) ∈ lw_tbl := (zt7 (i := 22) rfl)
theorem kW_225 : Cond.methodLink "PrefixCodeIndexLaw" 225 (zy mW_ageOf) ∈ lw_tbl := (zt4 (i := 58) rfl)
theorem kW_227 : Cond.methodLink "PrefixCodeIndexLaw" 227 (zy mM_ageOf) ∈ lw_tbl := (zt7 (i := 30) rfl)
theorem kW_228 : Cond.methodLink "PrefixCodeIndexLaw" 228 (zy mW_hitsOf) ∈ lw_tbl := (zt4 (i := 65) rfl)
theorem kW_230 : Cond.methodLink "PrefixCodeIndexLaw" 230 (zy mM_hitsOf) ∈ lw_tbl := (zt7 (i := 34) rfl)
theorem kW_231 : Cond.methodLink "PrefixCodeIndexLaw" 231 (zy mW_lifetimeOf) ∈ lw_tbl := (zt4 (i := 72) rfl)
theorem kW_233 : Cond.methodLink "PrefixCodeIndexLaw" 233 (zy mM_lifetimeOf) ∈ lw_tbl := (zt7 (i := 38) rfl)
theorem kW_234 : Cond.methodLink "PrefixCodeIndexLaw" 234 (zy mW_segmentOf) ∈ lw_tbl := (zt4 (i := 80) rfl)
theorem kW_236 : Cond.methodLink "PrefixCodeIndexLaw" 236 (zy mM_segmentOf) ∈ lw_tbl := (zt7 (i := 42) rfl)
theorem kW_237 : Cond.methodLink "PrefixCodeIndexLaw" 237 (zy mW_codeCount) ∈ lw_tbl := (zt4 (i := 87) rfl)
theorem kW_239 : Cond.methodLink "PrefixCodeIndexLaw" 239 (zy mM_codeCount) ∈ lw_tbl := (zt7 (i := 46) rfl)
theorem kW_240 : Cond.methodLink "PrefixCodeIndexLaw" 240 (zy mW_codeAt) ∈ lw_tbl := (zt4 (i := 94) rfl)
theorem kW_242 : Cond.methodLink "PrefixCodeIndexLaw" 242 (zy mM_codeAt) ∈ lw_tbl := (zt7 (i := 50) rfl)
theorem kW_243 : Cond.methodLink "PrefixCodeIndexLaw" 243 (zy mW_hasCode) ∈ lw_tbl := (zt4 (i := 101) rfl)
theorem kW_245 : Cond.methodLink "PrefixCodeIndexLaw" 245 (zy mM_hasCode) ∈ lw_tbl := (zt7 (i := 54) rfl)
theorem kW_246 : Cond.methodLink "PrefixCodeIndexLaw" 246 (zy mW_matches) ∈ lw_tbl := (zt4 (i := 109) rfl)
theorem kW_249 : Cond.methodLink "PrefixCodeIndexLaw" 249 (zy mM_matches) ∈ lw_tbl := (zt7 (i := 58) rfl)
theorem kW_250 : Cond.methodLink "PrefixCodeIndexLaw" 250 (zy mX_segmentCount) ∈ lw_tbl := (zt2 (i := 34) rfl)
theorem kW_253 : Cond.methodLink "PrefixCodeIndexLaw" 253 (zy mM_segmentCount) ∈ lw_tbl := (zt7 (i := 62) rfl)
theorem kW_254 : Cond.methodLink "PrefixCodeIndexLaw" 254 (zy mW_entriesIn) ∈ lw_tbl := (zt4 (i := 116) rfl)
theorem kW_256 : Cond.methodLink "PrefixCodeIndexLaw" 256 (zy mM_entriesIn) ∈ lw_tbl := (zt7 (i := 66) rfl)
theorem kW_257 : Cond.methodLink "PrefixCodeIndexLaw" 257 (zy mW_resultCount) ∈ lw_tbl := (zt4 (i := 123) rfl)
theorem kW_259 : Cond.methodLink "PrefixCodeIndexLaw" 259 (zy mM_resultCount) ∈ lw_tbl := (zt7 (i := 70) rfl)
theorem kW_260 : Cond.methodLink "PrefixCodeIndexLaw" 260 (zy mW_resultCountByScan) ∈ lw_tbl := (zt4 (i := 127) rfl)
theorem kW_262 : Cond.methodLink "PrefixCodeIndexLaw" 262 (zy mM_resultCountByScan) ∈ lw_tbl := (zt7 (i := 78) rfl)
theorem kW_263 : Cond.methodLink "PrefixCodeIndexLaw" 263 (zy mW_resultAt) ∈ lw_tbl := (zt4 (i := 131) rfl)
theorem kW_265 : Cond.methodLink "PrefixCodeIndexLaw" 265 (zy mM_resultAt) ∈ lw_tbl := (zt7 (i := 83) rfl)
theorem kW_266 : Cond.methodLink "PrefixCodeIndexLaw" 266 (zy mW_scoreOf) ∈ lw_tbl := (zt4 (i := 153) rfl)
theorem kW_268 : Cond.methodLink "PrefixCodeIndexLaw" 268 (zy mM_scoreOf) ∈ lw_tbl := (zt7 (i := 95) rfl)
theorem kW_269 : Cond.methodLink "PrefixCodeIndexLaw" 269 (zy mW_codesWith) ∈ lw_tbl := (zt4 (i := 161) rfl)
theorem kW_271 : Cond.methodLink "PrefixCodeIndexLaw" 271 (zy mM_codesWith) ∈ lw_tbl := (zt7 (i := 99) rfl)
theorem kW_272 : Cond.methodLink "PrefixCodeIndexLaw" 272 (zy mW_nextDigits) ∈ lw_tbl := (zt4 (i := 169) rfl)
theorem kW_274 : Cond.methodLink "PrefixCodeIndexLaw" 274 (zy mM_nextDigits) ∈ lw_tbl := (zt7 (i := 107) rfl)
theorem kW_275 : Cond.methodLink "PrefixCodeIndexLaw" 275 (zy mW_sharedDigits) ∈ lw_tbl := (zt4 (i := 181) rfl)
theorem kW_277 : Cond.methodLink "PrefixCodeIndexLaw" 277 (zy mM_sharedDigits) ∈ lw_tbl := (zt7 (i := 111) rfl)
theorem kW_278 : Cond.methodLink "PrefixCodeIndexLaw" 278 (zy mW_sharedDigitsByScan) ∈ lw_tbl := (zt4 (i := 185) rfl)
theorem kW_280 : Cond.methodLink "PrefixCodeIndexLaw" 280 (zy mM_sharedDigitsByScan) ∈ lw_tbl := (zt7 (i := 115) rfl)
theorem kW_281 : Cond.methodLink "PrefixCodeIndexLaw" 281 (zy mW_entriesWith) ∈ lw_tbl := (zt4 (i := 189) rfl)
theorem kW_283 : Cond.methodLink "PrefixCodeIndexLaw" 283 (zy mM_entriesWith) ∈ lw_tbl := (zt7 (i := 120) rfl)
theorem kW_284 : Cond.methodLink "PrefixCodeIndexLaw" 284 (zy mW_codeAfter) ∈ lw_tbl := (zt4 (i := 196) rfl)
theorem kW_286 : Cond.methodLink "PrefixCodeIndexLaw" 286 (zy mM_codeAfter) ∈ lw_tbl := (zt7 (i := 124) rfl)
theorem kW_287 : Cond.methodLink "PrefixCodeIndexLaw" 287 (zy mW_commonestCode) ∈ lw_tbl := (zt4 (i := 209) rfl)
theorem kW_289 : Cond.methodLink "PrefixCodeIndexLaw" 289 (zy mM_commonestCode) ∈ lw_tbl := (zt7 (i := 129) rfl)
theorem kW_290 : Cond.methodLink "PrefixCodeIndexLaw" 290 (zy mW_sharedCodes) ∈ lw_tbl := (zt4 (i := 221) rfl)
theorem kW_292 : Cond.methodLink "PrefixCodeIndexLaw" 292 (zy mM_sharedCodes) ∈ lw_tbl := (zt7 (i := 133) rfl)
theorem kW_293 : Cond.methodLink "PrefixCodeIndexLaw" 293 (zy mW_mostSimilar) ∈ lw_tbl := (zt4 (i := 229) rfl)
theorem kW_295 : Cond.methodLink "PrefixCodeIndexLaw" 295 (zy mM_mostSimilar) ∈ lw_tbl := (zt7 (i := 137) rfl)
theorem kW_296 : Cond.methodLink "PrefixCodeIndexLaw" 296 (zy mW_daysUntilFaded) ∈ lw_tbl := (zt4 (i := 237) rfl)
theorem kW_298 : Cond.methodLink "PrefixCodeIndexLaw" 298 (zy mM_daysUntilFaded) ∈ lw_tbl := (zt7 (i := 141) rfl)
theorem kW_299 : Cond.methodLink "PrefixCodeIndexLaw" 299 (zy mW_daysUntilFadedByDays) ∈ lw_tbl := (zt5 (i := 1) rfl)
theorem kW_301 : Cond.methodLink "PrefixCodeIndexLaw" 301 (zy mM_daysUntilFadedByDays) ∈ lw_tbl := (zt7 (i := 149) rfl)
theorem kW_302 : Cond.methodLink "PrefixCodeIndexLaw" 302 (zy mW_fadingWithin) ∈ lw_tbl := (zt5 (i := 5) rfl)
theorem kW_304 : Cond.methodLink "PrefixCodeIndexLaw" 304 (zy mM_fadingWithin) ∈ lw_tbl := (zt7 (i := 154) rfl)
theorem kW_305 : Cond.methodLink "PrefixCodeIndexLaw" 305 (zy mX_addedTotal) ∈ lw_tbl := (zt2 (i := 38) rfl)
theorem kW_308 : Cond.methodLink "PrefixCodeIndexLaw" 308 (zy mM_addedTotal) ∈ lw_tbl := (zt7 (i := 158) rfl)
theorem kW_309 : Cond.methodLink "PrefixCodeIndexLaw" 309 (zy mX_removedTotal) ∈ lw_tbl := (zt2 (i := 42) rfl)
theorem kW_312 : Cond.methodLink "PrefixCodeIndexLaw" 312 (zy mM_removedTotal) ∈ lw_tbl := (zt7 (i := 162) rfl)
theorem kW_313 : Cond.methodLink "PrefixCodeIndexLaw" 313 (zy mX_mergedTotal) ∈ lw_tbl := (zt2 (i := 46) rfl)
theorem kW_316 : Cond.methodLink "PrefixCodeIndexLaw" 316 (zy mM_mergedTotal) ∈ lw_tbl := (zt7 (i := 166) rfl)
theorem kW_317 : Cond.methodLink "PrefixCodeIndexLaw" 317 (zy mX_fadedTotal) ∈ lw_tbl := (zt2 (i := 50) rfl)
theorem kW_320 : Cond.methodLink "PrefixCodeIndexLaw" 320 (zy mM_fadedTotal) ∈ lw_tbl := (zt7 (i := 170) rfl)
theorem kW_321 : Cond.methodLink "PrefixCodeIndexLaw" 321 (zy mW_meanCodes) ∈ lw_tbl := (zt5 (i := 13) rfl)
theorem kW_324 : Cond.methodLink "PrefixCodeIndexLaw" 324 (zy mM_meanCodes) ∈ lw_tbl := (zt7 (i := 174) rfl)
theorem kW_325 : Cond.methodLink "PrefixCodeIndexLaw" 325 (zy mW_fadedShare) ∈ lw_tbl := (zt5 (i := 37) rfl)
theorem kW_327 : Cond.methodLink "PrefixCodeIndexLaw" 327 (zy mM_fadedShare) ∈ lw_tbl := (zt7 (i := 178) rfl)
theorem kW_328 : Cond.methodLink "PrefixCodeIndexLaw" 328 (zy mX_isConsistent) ∈ lw_tbl := (zt2 (i := 54) rfl)
theorem kW_332 : Cond.methodLink "PrefixCodeIndexLaw" 332 (zy mM_isConsistent) ∈ lw_tbl := (zt7 (i := 182) rfl)
theorem kW_333 : Cond.methodLink "PrefixCodeIndexLaw" 333 (zy mW_formatEntry) ∈ lw_tbl := (zt5 (i := 45) rfl)
theorem kW_335 : Cond.methodLink "PrefixCodeIndexLaw" 335 (zy mM_formatEntry) ∈ lw_tbl := (zt7 (i := 186) rfl)
theorem kW_336 : Cond.methodLink "PrefixCodeIndexLaw" 336 (zy mW_formatResults) ∈ lw_tbl := (zt5 (i := 80) rfl)
theorem kW_338 : Cond.methodLink "PrefixCodeIndexLaw" 338 (zy mM_formatResults) ∈ lw_tbl := (zt7 (i := 203) rfl)
theorem kW_339 : Cond.methodLink "PrefixCodeIndexLaw" 339 (zy mW_lineChar) ∈ lw_tbl := (zt5 (i := 88) rfl)
theorem kW_341 : Cond.methodLink "PrefixCodeIndexLaw" 341 (zy mM_lineChar) ∈ lw_tbl := (zt7 (i := 207) rfl)
theorem kW_342 : Cond.methodLink "PrefixCodeIndexLaw" 342 (zy mW_append) ∈ lw_tbl := (zt5 (i := 96) rfl)
theorem kW_345 : Cond.methodLink "PrefixCodeIndexLaw" 345 (zy mM_append) ∈ lw_tbl := (zt7 (i := 211) rfl)
theorem kW_346 : Cond.methodLink "PrefixCodeIndexLaw" 346 (zy mW_run) ∈ lw_tbl := (zt5 (i := 109) rfl)
theorem kW_348 : Cond.methodLink "PrefixCodeIndexLaw" 348 (zy mM_run) ∈ lw_tbl := (zt7 (i := 217) rfl)
theorem kW_349 : Cond.methodLink "PrefixCodeIndexLaw" 349 (zy mW_errorPosition) ∈ lw_tbl := (zt5 (i := 236) rfl)
theorem kW_351 : Cond.methodLink "PrefixCodeIndexLaw" 351 (zy mM_errorPosition) ∈ lw_tbl := (zt8 (i := 19) rfl)
theorem kW_352 : Cond.methodLink "PrefixCodeIndexLaw" 352 (zy mW_failedCommand) ∈ lw_tbl := (zt6 (i := 4) rfl)
theorem kW_354 : Cond.methodLink "PrefixCodeIndexLaw" 354 (zy mM_failedCommand) ∈ lw_tbl := (zt8 (i := 23) rfl)
theorem kW_355 : Cond.methodLink "PrefixCodeIndexLaw" 355 (zy mX_undoableCount) ∈ lw_tbl := (zt3 (i := 39) rfl)
theorem kW_358 : Cond.methodLink "PrefixCodeIndexLaw" 358 (zy mM_undoableCount) ∈ lw_tbl := (zt8 (i := 27) rfl)
theorem kW_359 : Cond.methodLink "PrefixCodeIndexLaw" 359 (zy mW_undo) ∈ lw_tbl := (zt6 (i := 12) rfl)
theorem kW_361 : Cond.methodLink "PrefixCodeIndexLaw" 361 (zy mM_undo) ∈ lw_tbl := (zt8 (i := 31) rfl)
theorem kW_362 : Cond.methodLink "PrefixCodeIndexLaw" 362 (zy mX_save) ∈ lw_tbl := (zt3 (i := 43) rfl)
theorem kW_365 : Cond.methodLink "PrefixCodeIndexLaw" 365 (zy mM_save) ∈ lw_tbl := (zt8 (i := 35) rfl)
theorem kW_366 : Cond.methodLink "PrefixCodeIndexLaw" 366 (zy mW_restore) ∈ lw_tbl := (zt6 (i := 24) rfl)
theorem kW_368 : Cond.methodLink "PrefixCodeIndexLaw" 368 (zy mM_restore) ∈ lw_tbl := (zt8 (i := 39) rfl)
theorem kM_1 : Cond.methodLink "PrefixCodeIndexModel" 1 ⟨"java/lang/Object", "<init>", "()V"⟩ ∈ lw_tbl := (zt6 (i := 41) rfl)
theorem kM_51 : Cond.methodLink "PrefixCodeIndexModel" 51 (zy mM_entryAt) ∈ lw_tbl := (zt6 (i := 130) rfl)
theorem kM_55 : Cond.methodLink "PrefixCodeIndexModel" 55 (zy mM_in) ∈ lw_tbl := (zt6 (i := 123) rfl)
theorem kM_59 : Cond.methodLink "PrefixCodeIndexModel" 59 (zy mM_power) ∈ lw_tbl := (zt6 (i := 161) rfl)
theorem kM_62 : Cond.methodLink "PrefixCodeIndexModel" 62 (zy mM_codeOf) ∈ lw_tbl := (zt6 (i := 154) rfl)
theorem kM_66 : Cond.methodLink "PrefixCodeIndexModel" 66 (zy mM_has) ∈ lw_tbl := (zt6 (i := 158) rfl)
theorem kM_70 : Cond.methodLink "PrefixCodeIndexModel" 70 (zy mM_many) ∈ lw_tbl := (zt6 (i := 150) rfl)
theorem kM_74 : Cond.methodLink "PrefixCodeIndexModel" 74 (zy mM_score) ∈ lw_tbl := (zt7 (i := 91) rfl)
theorem kM_77 : Cond.methodLink "PrefixCodeIndexModel" 77 (zy mM_results) ∈ lw_tbl := (zt7 (i := 74) rfl)
theorem kM_80 : Cond.methodLink "PrefixCodeIndexModel" 80 (zy mN_min) ∈ lw_tbl := (zt6 (i := 209) rfl)
theorem kM_85 : Cond.methodLink "PrefixCodeIndexModel" 85 (zy mM_lifetime) ∈ lw_tbl := (zt7 (i := 6) rfl)
theorem kM_90 : Cond.methodLink "PrefixCodeIndexModel" 90 (zy mM_throwing) ∈ lw_tbl := (zt6 (i := 126) rfl)
theorem kM_93 : Cond.methodLink "PrefixCodeIndexModel" 93 (zy mM_starts) ∈ lw_tbl := (zt6 (i := 114) rfl)
theorem kM_96 : Cond.methodLink "PrefixCodeIndexModel" 96 (zy mM_entryIt) ∈ lw_tbl := (zt6 (i := 118) rfl)
theorem kM_99 : Cond.methodLink "PrefixCodeIndexModel" 99 (zy mM_changed) ∈ lw_tbl := (zt6 (i := 133) rfl)
theorem kM_102 : Cond.methodLink "PrefixCodeIndexModel" 102 (zy mM_find) ∈ lw_tbl := (zt6 (i := 145) rfl)
theorem kM_107 : Cond.methodLink "PrefixCodeIndexModel" 107 (zy mM_puts) ∈ lw_tbl := (zt6 (i := 164) rfl)
theorem kM_111 : Cond.methodLink "PrefixCodeIndexModel" 111 (zy mM_codeIt) ∈ lw_tbl := (zt6 (i := 141) rfl)
theorem kM_114 : Cond.methodLink "PrefixCodeIndexModel" 114 (zy mM_uncodeIt) ∈ lw_tbl := (zt6 (i := 172) rfl)
theorem kM_117 : Cond.methodLink "PrefixCodeIndexModel" 117 (zy mM_leaves) ∈ lw_tbl := (zt6 (i := 184) rfl)
theorem kM_121 : Cond.methodLink "PrefixCodeIndexModel" 121 (zy mM_dropIt) ∈ lw_tbl := (zt6 (i := 180) rfl)
theorem kM_124 : Cond.methodLink "PrefixCodeIndexModel" 124 (zy mM_touchIt) ∈ lw_tbl := (zt6 (i := 192) rfl)
theorem kM_127 : Cond.methodLink "PrefixCodeIndexModel" 127 (zy mM_common) ∈ lw_tbl := (zt6 (i := 204) rfl)
theorem kM_130 : Cond.methodLink "PrefixCodeIndexModel" 130 (zy mN_max) ∈ lw_tbl := (zt6 (i := 208) rfl)
theorem kM_133 : Cond.methodLink "PrefixCodeIndexModel" 133 (zy mM_mergeIt) ∈ lw_tbl := (zt6 (i := 200) rfl)
theorem kM_136 : Cond.methodLink "PrefixCodeIndexModel" 136 (zy mM_segmentIt) ∈ lw_tbl := (zt6 (i := 214) rfl)
theorem kM_140 : Cond.methodLink "PrefixCodeIndexModel" 140 (zy mM_joinIt) ∈ lw_tbl := (zt6 (i := 222) rfl)
theorem kM_143 : Cond.methodLink "PrefixCodeIndexModel" 143 (zy mM_isPrefix) ∈ lw_tbl := (zt6 (i := 234) rfl)
theorem kM_146 : Cond.methodLink "PrefixCodeIndexModel" 146 (zy mM_searchIt) ∈ lw_tbl := (zt6 (i := 230) rfl)
theorem kM_151 : Cond.methodLink "PrefixCodeIndexModel" 151 (zy mM_passIt) ∈ lw_tbl := (zt7 (i := 1) rfl)
theorem kM_154 : Cond.methodLink "PrefixCodeIndexModel" 154 (zy mM_total) ∈ lw_tbl := (zt7 (i := 14) rfl)
theorem kM_157 : Cond.methodLink "PrefixCodeIndexModel" 157 (zy mM_ofEntry) ∈ lw_tbl := (zt7 (i := 26) rfl)
theorem kM_160 : Cond.methodLink "PrefixCodeIndexModel" 160 (zy mM_resultCount) ∈ lw_tbl := (zt7 (i := 82) rfl)
theorem kM_163 : Cond.methodLink "PrefixCodeIndexModel" 163 (zy mM_result) ∈ lw_tbl := (zt7 (i := 87) rfl)
theorem kM_166 : Cond.methodLink "PrefixCodeIndexModel" 166 (zy mM_holders) ∈ lw_tbl := (zt7 (i := 103) rfl)
theorem kM_169 : Cond.methodLink "PrefixCodeIndexModel" 169 (zy mM_sharedDigits) ∈ lw_tbl := (zt7 (i := 119) rfl)
theorem kM_174 : Cond.methodLink "PrefixCodeIndexModel" 174 (zy mM_daysLeft) ∈ lw_tbl := (zt7 (i := 145) rfl)
theorem kM_177 : Cond.methodLink "PrefixCodeIndexModel" 177 (zy mM_daysUntilFaded) ∈ lw_tbl := (zt7 (i := 153) rfl)
theorem kM_183 : Cond.methodLink "PrefixCodeIndexModel" 183 (zy mM_sign) ∈ lw_tbl := (zt7 (i := 194) rfl)
theorem kM_186 : Cond.methodLink "PrefixCodeIndexModel" 186 (zy mN_abs) ∈ lw_tbl := (zt7 (i := 202) rfl)
theorem kM_189 : Cond.methodLink "PrefixCodeIndexModel" 189 (zy mM_writesNumber) ∈ lw_tbl := (zt7 (i := 198) rfl)
theorem kM_192 : Cond.methodLink "PrefixCodeIndexModel" 192 (zy mM_writes) ∈ lw_tbl := (zt7 (i := 190) rfl)
theorem kM_212 : Cond.methodLink "PrefixCodeIndexModel" 212 (zy mM_here) ∈ lw_tbl := (zt7 (i := 237) rfl)
theorem kM_219 : Cond.methodLink "PrefixCodeIndexModel" 219 (zy mM_digit) ∈ lw_tbl := (zt7 (i := 233) rfl)
theorem kM_225 : Cond.methodLink "PrefixCodeIndexModel" 225 (zy mM_expects) ∈ lw_tbl := (zt8 (i := 11) rfl)
theorem kM_228 : Cond.methodLink "PrefixCodeIndexModel" 228 (zy mM_number) ∈ lw_tbl := (zt8 (i := 3) rfl)
theorem kM_231 : Cond.methodLink "PrefixCodeIndexModel" 231 (zy mM_numberBehind) ∈ lw_tbl := (zt8 (i := 7) rfl)
theorem kM_237 : Cond.methodLink "PrefixCodeIndexModel" 237 (zy mM_likeness) ∈ lw_tbl := (zt7 (i := 225) rfl)
theorem kM_240 : Cond.methodLink "PrefixCodeIndexModel" 240 (zy mM_readArguments) ∈ lw_tbl := (zt7 (i := 229) rfl)
theorem kM_243 : Cond.methodLink "PrefixCodeIndexModel" 243 (zy mM_readCommand) ∈ lw_tbl := (zt7 (i := 221) rfl)
theorem kM_246 : Cond.methodLink "PrefixCodeIndexModel" 246 (zy mM_does) ∈ lw_tbl := (zt8 (i := 15) rfl)
theorem kS_335 : Cond.methodLink "java/lang/String" 335 (zy mS_coder) ∈ lw_tbl := (zt5 (i := 149) rfl)
theorem kS_492 : Cond.methodLink "java/lang/String" 492 (zy mS_isLatin1) ∈ lw_tbl := (zt5 (i := 159) rfl)
theorem kS_495 : Cond.methodLink "java/lang/String" 495 (zy mQ_charAt) ∈ lw_tbl := (zt5 (i := 163) rfl)
theorem kS_498 : Cond.methodLink "java/lang/String" 498 ⟨"java/lang/StringUTF16", "charAt", "([BI)C"⟩ ∈ lw_tbl := (zt5 (i := 174) rfl)
theorem kS_1059 : Cond.methodLink "java/lang/String" 1059 (zy mK_checkIndex) ∈ lw_tbl := (zt5 (i := 171) rfl)
theorem kQ_9 : Cond.methodLink "java/lang/StringLatin1" 9 (zy mS_checkIndex) ∈ lw_tbl := (zt5 (i := 166) rfl)
theorem knX_28 : Cond.methodLinkNest "PrefixCodeIndex" 28 (zy mT_init) "PrefixCodeIndex" ∈ lw_tbl := (zt1 (i := 143) rfl)
theorem knX_35 : Cond.methodLinkNest "PrefixCodeIndex" 35 (zy mR_init) "PrefixCodeIndex" ∈ lw_tbl := (zt1 (i := 156) rfl)
theorem knX_42 : Cond.methodLinkNest "PrefixCodeIndex" 42 (zy mP_init) "PrefixCodeIndex" ∈ lw_tbl := (zt1 (i := 175) rfl)
theorem knX_49 : Cond.methodLinkNest "PrefixCodeIndex" 49 (zy mL_init) "PrefixCodeIndex" ∈ lw_tbl := (zt1 (i := 215) rfl)
theorem knX_56 : Cond.methodLinkNest "PrefixCodeIndex" 56 (zy mE_init) "PrefixCodeIndex" ∈ lw_tbl := (zt1 (i := 232) rfl)
theorem knC_39 : Cond.methodLinkNest "PrefixCodeIndex$Contents" 39 (zy mE_init) "PrefixCodeIndex" ∈ lw_tbl := (zt1 (i := 43) rfl)
theorem knC_88 : Cond.methodLinkNest "PrefixCodeIndex$Contents" 88 (zy mX_isCode) "PrefixCodeIndex" ∈ lw_tbl := (zt3 (i := 87) rfl)
theorem knC_121 : Cond.methodLinkNest "PrefixCodeIndex$Contents" 121 (zy mX_isPrefix) "PrefixCodeIndex" ∈ lw_tbl := (zt3 (i := 146) rfl)
theorem knE_48 : Cond.methodLinkNest "PrefixCodeIndex$Entry" 48 (zy mX_hasPrefix) "PrefixCodeIndex" ∈ lw_tbl := (zt2 (i := 186) rfl)
theorem knL_34 : Cond.methodLinkNest "PrefixCodeIndex$Line" 34 (zy mX_withoutEnd) "PrefixCodeIndex" ∈ lw_tbl := (zt5 (i := 79) rfl)
theorem knT_53 : Cond.methodLinkNest "PrefixCodeIndex$Trie" 53 (zy mX_commonDigits) "PrefixCodeIndex" ∈ lw_tbl := (zt2 (i := 157) rfl)
theorem kcX_9 : Cond.classLink "PrefixCodeIndex" 9 "PrefixCodeIndex$Contents" ∈ lw_tbl := (zt1 (i := 34) rfl)
theorem kcX_19 : Cond.classLink "PrefixCodeIndex" 19 "PrefixCodeIndex$History" ∈ lw_tbl := (zt1 (i := 121) rfl)
theorem kcX_26 : Cond.classLink "PrefixCodeIndex" 26 "PrefixCodeIndex$Trie" ∈ lw_tbl := (zt1 (i := 141) rfl)
theorem kcX_33 : Cond.classLink "PrefixCodeIndex" 33 "PrefixCodeIndex$Ranking" ∈ lw_tbl := (zt1 (i := 154) rfl)
theorem kcX_40 : Cond.classLink "PrefixCodeIndex" 40 "PrefixCodeIndex$Program" ∈ lw_tbl := (zt1 (i := 173) rfl)
theorem kcX_47 : Cond.classLink "PrefixCodeIndex" 47 "PrefixCodeIndex$Line" ∈ lw_tbl := (zt1 (i := 213) rfl)
theorem kcX_54 : Cond.classLink "PrefixCodeIndex" 54 "PrefixCodeIndex$Entry" ∈ lw_tbl := (zt1 (i := 231) rfl)
theorem kcX_93 : Cond.classLink "PrefixCodeIndex" 93 "java/util/NoSuchElementException" ∈ lw_tbl := (zt2 (i := 236) rfl)
theorem kcX_100 : Cond.classLink "PrefixCodeIndex" 100 "java/lang/IllegalArgumentException" ∈ lw_tbl := (zt2 (i := 75) rfl)
theorem kcX_105 : Cond.classLink "PrefixCodeIndex" 105 "java/lang/IndexOutOfBoundsException" ∈ lw_tbl := (zt3 (i := 161) rfl)
theorem kcX_110 : Cond.classLink "PrefixCodeIndex" 110 "java/lang/IllegalStateException" ∈ lw_tbl := (zt3 (i := 177) rfl)
theorem kcX_267 : Cond.classLink "PrefixCodeIndex" 267 "java/lang/ArithmeticException" ∈ lw_tbl := (zt5 (i := 34) rfl)
theorem kcC_9 : Cond.classLink "PrefixCodeIndex$Contents" 9 "PrefixCodeIndex$Entry" ∈ lw_tbl := (zt1 (i := 40) rfl)
theorem kcH_11 : Cond.classLink "PrefixCodeIndex$History" 11 "PrefixCodeIndex$Contents" ∈ lw_tbl := (zt1 (i := 127) rfl)
theorem kcW_8 : Cond.classLink "PrefixCodeIndexLaw" 8 "PrefixCodeIndex" ∈ lw_tbl := (zt1 (i := 26) rfl)
theorem kcW_13 : Cond.classLink "PrefixCodeIndexLaw" 13 "java/lang/IllegalArgumentException" ∈ lw_tbl := (zt3 (i := 55) rfl)
theorem kcW_15 : Cond.classLink "PrefixCodeIndexLaw" 15 "java/lang/IllegalStateException" ∈ lw_tbl := (zt3 (i := 56) rfl)
theorem kcW_21 : Cond.classLink "PrefixCodeIndexLaw" 21 "java/util/NoSuchElementException" ∈ lw_tbl := (zt3 (i := 201) rfl)
theorem kcW_42 : Cond.classLink "PrefixCodeIndexLaw" 42 "java/lang/IndexOutOfBoundsException" ∈ lw_tbl := (zt4 (i := 4) rfl)
theorem kcW_138 : Cond.classLink "PrefixCodeIndexLaw" 138 "java/lang/ArithmeticException" ∈ lw_tbl := (zt5 (i := 16) rfl)
theorem kcW_174 : Cond.classLink "PrefixCodeIndexLaw" 174 "PrefixCodeIndexModel" ∈ lw_tbl := (zt6 (i := 36) rfl)
