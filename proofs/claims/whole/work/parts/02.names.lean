/-! NAMES: the words of the tables that a call keeps; the types, their fields in the order of the tables (declaring type, name, descriptor, final) -/
def tb : List Cond := lw_tbl.filter goodWord
theorem tb_mem {w : Cond} (i : Nat) (h : lw_tbl[i]? = some w) (hg : goodWord w = true) : w ∈ tb := List.mem_filter.mpr ⟨List.mem_of_getElem? h, hg⟩
def R_LS : String := "LateSeekers"
def F_LS : u_T := fun k => match k with
  | 0 => ("LateSeekers", "now", "LLateSeekers$Park;", true)
  | 1 => ("LateSeekers", "kept", "LLateSeekers$Park;", true)
  | 2 => ("LateSeekers", "anyKept", "Z", false)
  | 3 => ("LateSeekers", "trials", "LLateSeekers$Trials;", true)
  | 4 => ("LateSeekers", "tape", "LLateSeekers$TapeReader;", true)
  | 5 => ("LateSeekers", "rows", "LLateSeekers$Rows;", true)
  | 6 => ("LateSeekers", "sheets", "LLateSeekers$Sheets;", true)
  | 7 => ("LateSeekers", "shelves", "LLateSeekers$Shelves;", true)
  | _ => ("LateSeekers", "actor", "LLateSeekers$Actor;", true)
def t_LS : Nat → FieldType := fun k => match k with
  | 0 => .object "LateSeekers$Park"
  | 1 => .object "LateSeekers$Park"
  | 2 => .boolean
  | 3 => .object "LateSeekers$Trials"
  | 4 => .object "LateSeekers$TapeReader"
  | 5 => .object "LateSeekers$Rows"
  | 6 => .object "LateSeekers$Sheets"
  | 7 => .object "LateSeekers$Shelves"
  | _ => .object "LateSeekers$Actor"
theorem n_LS : ∀ a, a < 9 → ∀ b, b < 9 → a ≠ b → (F_LS a).2.1 ≠ (F_LS b).2.1 := by decide +kernel
theorem t_LS_ok : ∀ k, k < 9 → parseFieldDescriptor (F_LS k).2.2.1 = some (t_LS k) := by decide +kernel
set_option maxRecDepth 20000 in
theorem i_LS : ∀ w ∈ u_ws R_LS F_LS 9, w ∈ tb := by decide +kernel
def R_Pk : String := "LateSeekers$Park"
def F_Pk : u_T := fun k => match k with
  | 0 => ("LateSeekers$Park", "law", "[I", true)
  | 1 => ("LateSeekers$Park", "cover", "[I", true)
  | 2 => ("LateSeekers$Park", "kind", "[I", true)
  | 3 => ("LateSeekers$Park", "age", "[I", true)
  | 4 => ("LateSeekers$Park", "wit", "[I", true)
  | 5 => ("LateSeekers$Park", "at", "[I", true)
  | 6 => ("LateSeekers$Park", "finds", "[I", true)
  | 7 => ("LateSeekers$Park", "finderOf", "[I", true)
  | 8 => ("LateSeekers$Park", "people", "I", false)
  | 9 => ("LateSeekers$Park", "hidden", "I", false)
  | 10 => ("LateSeekers$Park", "yearsGone", "I", false)
  | _ => ("LateSeekers$Park", "z", "I", false)
def t_Pk : Nat → FieldType := fun k => match k with
  | 0 => .array .int
  | 1 => .array .int
  | 2 => .array .int
  | 3 => .array .int
  | 4 => .array .int
  | 5 => .array .int
  | 6 => .array .int
  | 7 => .array .int
  | 8 => .int
  | 9 => .int
  | 10 => .int
  | _ => .int
theorem n_Pk : ∀ a, a < 12 → ∀ b, b < 12 → a ≠ b → (F_Pk a).2.1 ≠ (F_Pk b).2.1 := by decide +kernel
theorem t_Pk_ok : ∀ k, k < 12 → parseFieldDescriptor (F_Pk k).2.2.1 = some (t_Pk k) := by decide +kernel
set_option maxRecDepth 20000 in
theorem i_Pk : ∀ w ∈ u_ws R_Pk F_Pk 12, w ∈ tb := by decide +kernel
def R_Tr : String := "LateSeekers$Trials"
def F_Tr : u_T := fun k => match k with
  | 0 => ("LateSeekers$Trials", "now", "LLateSeekers$Park;", true)
  | _ => ("LateSeekers$Trials", "trial", "LLateSeekers$Park;", true)
def t_Tr : Nat → FieldType := fun k => match k with
  | 0 => .object "LateSeekers$Park"
  | _ => .object "LateSeekers$Park"
theorem n_Tr : ∀ a, a < 2 → ∀ b, b < 2 → a ≠ b → (F_Tr a).2.1 ≠ (F_Tr b).2.1 := by decide +kernel
theorem t_Tr_ok : ∀ k, k < 2 → parseFieldDescriptor (F_Tr k).2.2.1 = some (t_Tr k) := by decide +kernel
set_option maxRecDepth 20000 in
theorem i_Tr : ∀ w ∈ u_ws R_Tr F_Tr 2, w ∈ tb := by decide +kernel
def R_Tp : String := "LateSeekers$TapeReader"
def F_Tp : u_T := fun k => match k with
  | 0 => ("LateSeekers$TapeReader", "bytes", "[B", true)
  | 1 => ("LateSeekers$TapeReader", "size", "I", false)
  | 2 => ("LateSeekers$TapeReader", "sort", "I", false)
  | 3 => ("LateSeekers$TapeReader", "from", "I", false)
  | 4 => ("LateSeekers$TapeReader", "to", "I", false)
  | _ => ("LateSeekers$TapeReader", "fault", "I", false)
def t_Tp : Nat → FieldType := fun k => match k with
  | 0 => .array .byte
  | 1 => .int
  | 2 => .int
  | 3 => .int
  | 4 => .int
  | _ => .int
theorem n_Tp : ∀ a, a < 6 → ∀ b, b < 6 → a ≠ b → (F_Tp a).2.1 ≠ (F_Tp b).2.1 := by decide +kernel
theorem t_Tp_ok : ∀ k, k < 6 → parseFieldDescriptor (F_Tp k).2.2.1 = some (t_Tp k) := by decide +kernel
set_option maxRecDepth 20000 in
theorem i_Tp : ∀ w ∈ u_ws R_Tp F_Tp 6, w ∈ tb := by decide +kernel
def R_Rw : String := "LateSeekers$Rows"
def F_Rw : u_T := fun k => match k with
  | 0 => ("LateSeekers$Rows", "parts", "[I", true)
  | _ => ("LateSeekers$Rows", "size", "I", false)
def t_Rw : Nat → FieldType := fun k => match k with
  | 0 => .array .int
  | _ => .int
theorem n_Rw : ∀ a, a < 2 → ∀ b, b < 2 → a ≠ b → (F_Rw a).2.1 ≠ (F_Rw b).2.1 := by decide +kernel
theorem t_Rw_ok : ∀ k, k < 2 → parseFieldDescriptor (F_Rw k).2.2.1 = some (t_Rw k) := by decide +kernel
set_option maxRecDepth 20000 in
theorem i_Rw : ∀ w ∈ u_ws R_Rw F_Rw 2, w ∈ tb := by decide +kernel
def R_Sh : String := "LateSeekers$Sheets"
def F_Sh : u_T := fun k => match k with
  | 0 => ("LateSeekers$Sheets", "sort", "[I", true)
  | 1 => ("LateSeekers$Sheets", "size", "[I", true)
  | _ => ("LateSeekers$Sheets", "items", "[I", true)
def t_Sh : Nat → FieldType := fun k => match k with
  | 0 => .array .int
  | 1 => .array .int
  | _ => .array .int
theorem n_Sh : ∀ a, a < 3 → ∀ b, b < 3 → a ≠ b → (F_Sh a).2.1 ≠ (F_Sh b).2.1 := by decide +kernel
theorem t_Sh_ok : ∀ k, k < 3 → parseFieldDescriptor (F_Sh k).2.2.1 = some (t_Sh k) := by decide +kernel
set_option maxRecDepth 20000 in
theorem i_Sh : ∀ w ∈ u_ws R_Sh F_Sh 3, w ∈ tb := by decide +kernel
def R_Sv : String := "LateSeekers$Shelves"
def F_Sv : u_T := fun k => match k with
  | 0 => ("LateSeekers$Shelves", "person", "[I", true)
  | 1 => ("LateSeekers$Shelves", "rowSort", "[I", true)
  | _ => ("LateSeekers$Shelves", "rowSize", "[I", true)
def t_Sv : Nat → FieldType := fun k => match k with
  | 0 => .array .int
  | 1 => .array .int
  | _ => .array .int
theorem n_Sv : ∀ a, a < 3 → ∀ b, b < 3 → a ≠ b → (F_Sv a).2.1 ≠ (F_Sv b).2.1 := by decide +kernel
theorem t_Sv_ok : ∀ k, k < 3 → parseFieldDescriptor (F_Sv k).2.2.1 = some (t_Sv k) := by decide +kernel
set_option maxRecDepth 20000 in
theorem i_Sv : ∀ w ∈ u_ws R_Sv F_Sv 3, w ∈ tb := by decide +kernel
def R_Ac : String := "LateSeekers$Actor"
def F_Ac : u_T := fun k => match k with
  | 0 => ("LateSeekers$Actor", "traceOf", "[I", true)
  | 1 => ("LateSeekers$Actor", "traced", "I", false)
  | 2 => ("LateSeekers$Actor", "ownKind", "I", false)
  | 3 => ("LateSeekers$Actor", "n", "I", false)
  | 4 => ("LateSeekers$Actor", "a", "I", false)
  | _ => ("LateSeekers$Actor", "partedByNothing", "Z", false)
def t_Ac : Nat → FieldType := fun k => match k with
  | 0 => .array .int
  | 1 => .int
  | 2 => .int
  | 3 => .int
  | 4 => .int
  | _ => .boolean
theorem n_Ac : ∀ a, a < 6 → ∀ b, b < 6 → a ≠ b → (F_Ac a).2.1 ≠ (F_Ac b).2.1 := by decide +kernel
theorem t_Ac_ok : ∀ k, k < 6 → parseFieldDescriptor (F_Ac k).2.2.1 = some (t_Ac k) := by decide +kernel
set_option maxRecDepth 20000 in
theorem i_Ac : ∀ w ∈ u_ws R_Ac F_Ac 6, w ∈ tb := by decide +kernel
def R_Md : String := "LateSeekersModel"
def F_Md : u_T := fun k => match k with
  | 0 => ("LateSeekersModel", "s", "[I", true)
  | 1 => ("LateSeekersModel", "held", "[I", true)
  | 2 => ("LateSeekersModel", "aside", "[I", true)
  | 3 => ("LateSeekersModel", "before", "[I", true)
  | 4 => ("LateSeekersModel", "isHeld", "Z", false)
  | 5 => ("LateSeekersModel", "tape", "[I", true)
  | 6 => ("LateSeekersModel", "taped", "I", false)
  | 7 => ("LateSeekersModel", "token", "I", false)
  | 8 => ("LateSeekersModel", "from", "I", false)
  | 9 => ("LateSeekersModel", "to", "I", false)
  | 10 => ("LateSeekersModel", "value", "I", false)
  | 11 => ("LateSeekersModel", "isWrong", "Z", false)
  | 12 => ("LateSeekersModel", "foundBy", "[I", true)
  | 13 => ("LateSeekersModel", "rows", "[I", true)
  | 14 => ("LateSeekersModel", "rowN", "I", false)
  | 15 => ("LateSeekersModel", "sortOf", "[I", true)
  | 16 => ("LateSeekersModel", "sizeOf", "[I", true)
  | 17 => ("LateSeekersModel", "numbers", "[I", true)
  | 18 => ("LateSeekersModel", "holdsWhat", "[I", true)
  | 19 => ("LateSeekersModel", "holdsWhich", "[I", true)
  | 20 => ("LateSeekersModel", "holdsMany", "[I", true)
  | 21 => ("LateSeekersModel", "bodies", "[I", true)
  | 22 => ("LateSeekersModel", "ran", "I", false)
  | 23 => ("LateSeekersModel", "actKind", "I", false)
  | 24 => ("LateSeekersModel", "actN", "I", false)
  | 25 => ("LateSeekersModel", "actA", "I", false)
  | _ => ("LateSeekersModel", "isParted", "Z", false)
def t_Md : Nat → FieldType := fun k => match k with
  | 0 => .array .int
  | 1 => .array .int
  | 2 => .array .int
  | 3 => .array .int
  | 4 => .boolean
  | 5 => .array .int
  | 6 => .int
  | 7 => .int
  | 8 => .int
  | 9 => .int
  | 10 => .int
  | 11 => .boolean
  | 12 => .array .int
  | 13 => .array .int
  | 14 => .int
  | 15 => .array .int
  | 16 => .array .int
  | 17 => .array .int
  | 18 => .array .int
  | 19 => .array .int
  | 20 => .array .int
  | 21 => .array .int
  | 22 => .int
  | 23 => .int
  | 24 => .int
  | 25 => .int
  | _ => .boolean
theorem n_Md : ∀ a, a < 27 → ∀ b, b < 27 → a ≠ b → (F_Md a).2.1 ≠ (F_Md b).2.1 := by decide +kernel
theorem t_Md_ok : ∀ k, k < 27 → parseFieldDescriptor (F_Md k).2.2.1 = some (t_Md k) := by decide +kernel
set_option maxRecDepth 20000 in
theorem i_Md : ∀ w ∈ u_ws R_Md F_Md 27, w ∈ tb := by decide +kernel
abbrev classes : List vw_C := [(R_LS, F_LS, 9), (R_Pk, F_Pk, 12), (R_Tr, F_Tr, 2), (R_Tp, F_Tp, 6), (R_Rw, F_Rw, 2), (R_Sh, F_Sh, 3), (R_Sv, F_Sv, 3), (R_Ac, F_Ac, 6), (R_Md, F_Md, 27)]
/-- what is known of type ci: its words are among the tables', its fields' types, their names apart -/
def CF (ci : Nat) : Prop := ∃ (C : String) (T : u_T) (N : Nat) (t : Nat → FieldType), classes[ci]? = some (C, T, N) ∧ (∀ w ∈ u_ws C T N, w ∈ tb) ∧ (∀ k, k < N → parseFieldDescriptor (T k).2.2.1 = some (t k)) ∧ (∀ a, a < N → ∀ b, b < N → a ≠ b → (T a).2.1 ≠ (T b).2.1)
theorem cf_all : ∀ ci, ci < 9 → CF ci := by
  intro ci h
  match ci, h with
  | 0, _ => exact ⟨R_LS, F_LS, 9, t_LS, rfl, i_LS, t_LS_ok, n_LS⟩
  | 1, _ => exact ⟨R_Pk, F_Pk, 12, t_Pk, rfl, i_Pk, t_Pk_ok, n_Pk⟩
  | 2, _ => exact ⟨R_Tr, F_Tr, 2, t_Tr, rfl, i_Tr, t_Tr_ok, n_Tr⟩
  | 3, _ => exact ⟨R_Tp, F_Tp, 6, t_Tp, rfl, i_Tp, t_Tp_ok, n_Tp⟩
  | 4, _ => exact ⟨R_Rw, F_Rw, 2, t_Rw, rfl, i_Rw, t_Rw_ok, n_Rw⟩
  | 5, _ => exact ⟨R_Sh, F_Sh, 3, t_Sh, rfl, i_Sh, t_Sh_ok, n_Sh⟩
  | 6, _ => exact ⟨R_Sv, F_Sv, 3, t_Sv, rfl, i_Sv, t_Sv_ok, n_Sv⟩
  | 7, _ => exact ⟨R_Ac, F_Ac, 6, t_Ac, rfl, i_Ac, t_Ac_ok, n_Ac⟩
  | 8, _ => exact ⟨R_Md, F_Md, 27, t_Md, rfl, i_Md, t_Md_ok, n_Md⟩
