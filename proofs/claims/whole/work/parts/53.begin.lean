/-! THE LAW: its beginning -/
def flC : List Cond := flatC (Jvm.Cond.and given_1 narrow_1)
abbrev tmS (i : Nat) : Term := .string "LateSeekers$TapeReader" (strK.getD i (0, "")).1
abbrev tmV (i : Nat) : Term := .field (tmS i) "java/lang/String" "value" "[B"
set_option maxRecDepth 20000 in
theorem f_ex : ∀ i : Fin 16, Cond.exactly (tmS i.val) "java/lang/String" ∈ flC := by decide +kernel
set_option maxRecDepth 20000 in
theorem f_co : ∀ i : Fin 16, Cond.eq (.field (tmS i.val) "java/lang/String" "coder" "B") (.int 0) ∈ flC := by decide +kernel
set_option maxRecDepth 20000 in
theorem f_ar : ∀ i : Fin 16, Cond.arrayOf (tmV i.val) .byte ∈ flC := by decide +kernel
set_option maxRecDepth 20000 in
theorem f_le : ∀ i : Fin 16, Cond.eq (.length (tmV i.val)) (.int (Int32.ofNat (strL.getD i.val 0))) ∈ flC := by decide +kernel
set_option maxRecDepth 20000 in
theorem f_el : ∀ i : Fin 16, ∀ j : Fin 8, j.val < strL.getD i.val 0 → Cond.eq (.elem (tmV i.val) (.int (Int32.ofNat j.val))) (.int ((strB.getD i.val []).getD j.val 0)) ∈ flC := by decide +kernel
def neA : List (Nat × Nat × Nat) := [(6, 7, 79), (6, 8, 90), (7, 8, 91), (6, 9, 104), (7, 9, 105), (8, 9, 106), (6, 10, 118), (7, 10, 119), (8, 10, 120), (9, 10, 121), (6, 11, 130), (7, 11, 131), (8, 11, 132), (9, 11, 133), (10, 11, 134), (6, 0, 141), (7, 0, 142), (8, 0, 143), (9, 0, 144), (10, 0, 145), (11, 0, 146), (6, 1, 154), (7, 1, 155), (8, 1, 156), (9, 1, 157), (10, 1, 158), (11, 1, 159), (0, 1, 160), (6, 2, 168), (7, 2, 169), (8, 2, 170), (9, 2, 171), (10, 2, 172), (11, 2, 173), (0, 2, 174), (1, 2, 175), (6, 3, 185), (7, 3, 186), (8, 3, 187), (9, 3, 188), (10, 3, 189), (11, 3, 190), (0, 3, 191), (1, 3, 192), (2, 3, 193), (6, 12, 201), (7, 12, 202), (8, 12, 203), (9, 12, 204), (10, 12, 205), (11, 12, 206), (0, 12, 207), (1, 12, 208), (2, 12, 209), (3, 12, 210), (6, 13, 219), (7, 13, 220), (8, 13, 221), (9, 13, 222), (10, 13, 223), (11, 13, 224), (0, 13, 225), (1, 13, 226), (2, 13, 227), (3, 13, 228), (12, 13, 229), (6, 14, 238), (7, 14, 239), (8, 14, 240), (9, 14, 241), (10, 14, 242), (11, 14, 243), (0, 14, 244), (1, 14, 245), (2, 14, 246), (3, 14, 247), (12, 14, 248), (13, 14, 249), (6, 15, 258), (7, 15, 259), (8, 15, 260), (9, 15, 261), (10, 15, 262), (11, 15, 263), (0, 15, 264), (1, 15, 265), (2, 15, 266), (3, 15, 267), (12, 15, 268), (13, 15, 269), (14, 15, 270), (6, 4, 280), (7, 4, 281), (8, 4, 282), (9, 4, 283), (10, 4, 284), (11, 4, 285), (0, 4, 286), (1, 4, 287), (2, 4, 288), (3, 4, 289), (12, 4, 290), (13, 4, 291), (14, 4, 292), (15, 4, 293), (6, 5, 300), (7, 5, 301), (8, 5, 302), (9, 5, 303), (10, 5, 304), (11, 5, 305), (0, 5, 306), (1, 5, 307), (2, 5, 308), (3, 5, 309), (12, 5, 310), (13, 5, 311), (14, 5, 312), (15, 5, 313), (4, 5, 314)]
def neK : List Nat := [120, 27, 34, 42, 97, 111, 15, 16, 17, 18, 19, 20, 51, 61, 72, 84, 27, 120, 35, 43, 98, 112, 21, 22, 23, 24, 25, 26, 52, 62, 73, 85, 34, 35, 120, 44, 99, 113, 28, 29, 30, 31, 32, 33, 53, 63, 74, 86, 42, 43, 44, 120, 100, 114, 36, 37, 38, 39, 40, 41, 54, 64, 75, 87, 97, 98, 99, 100, 120, 119, 91, 92, 93, 94, 95, 96, 101, 102, 103, 104, 111, 112, 113, 114, 119, 120, 105, 106, 107, 108, 109, 110, 115, 116, 117, 118, 15, 21, 28, 36, 91, 105, 120, 0, 1, 3, 6, 10, 45, 55, 66, 78, 16, 22, 29, 37, 92, 106, 0, 120, 2, 4, 7, 11, 46, 56, 67, 79, 17, 23, 30, 38, 93, 107, 1, 2, 120, 5, 8, 12, 47, 57, 68, 80, 18, 24, 31, 39, 94, 108, 3, 4, 5, 120, 9, 13, 48, 58, 69, 81, 19, 25, 32, 40, 95, 109, 6, 7, 8, 9, 120, 14, 49, 59, 70, 82, 20, 26, 33, 41, 96, 110, 10, 11, 12, 13, 14, 120, 50, 60, 71, 83, 51, 52, 53, 54, 101, 115, 45, 46, 47, 48, 49, 50, 120, 65, 76, 88, 61, 62, 63, 64, 102, 116, 55, 56, 57, 58, 59, 60, 65, 120, 77, 89, 72, 73, 74, 75, 103, 117, 66, 67, 68, 69, 70, 71, 76, 77, 120, 90, 84, 85, 86, 87, 104, 118, 78, 79, 80, 81, 82, 83, 88, 89, 90, 120]
set_option maxRecDepth 20000 in
theorem neT : ∀ k : Fin 120, flC[(neA.getD k.val (0, 0, 0)).2.2]? = some (Cond.not (Cond.eq (tmS (neA.getD k.val (0, 0, 0)).1) (tmS (neA.getD k.val (0, 0, 0)).2.1))) := by decide +kernel
set_option maxRecDepth 20000 in
theorem neC : ∀ i : Fin 16, ∀ j : Fin 16, i.val ≠ j.val → neK.getD (16 * i.val + j.val) 0 < 120 ∧ ((neA.getD (neK.getD (16 * i.val + j.val) 0) (0, 0, 0)).1 = i.val ∧ (neA.getD (neK.getD (16 * i.val + j.val) 0) (0, 0, 0)).2.1 = j.val ∨ (neA.getD (neK.getD (16 * i.val + j.val) 0) (0, 0, 0)).1 = j.val ∧ (neA.getD (neK.getD (16 * i.val + j.val) 0) (0, 0, 0)).2.1 = i.val) := by decide +kernel
theorem f_ne (i j : Nat) (hi : i < 16) (hj : j < 16) (hij : i ≠ j) : Cond.not (Cond.eq (tmS i) (tmS j)) ∈ flC ∨ Cond.not (Cond.eq (tmS j) (tmS i)) ∈ flC := by
  obtain ⟨h1, h2⟩ := neC ⟨i, hi⟩ ⟨j, hj⟩ hij
  have h3 := List.mem_of_getElem? (neT ⟨_, h1⟩)
  rcases h2 with ⟨e1, e2⟩ | ⟨e1, e2⟩
  · rw [e1, e2] at h3
    exact Or.inl h3
  · rw [e1, e2] at h3
    exact Or.inr h3
abbrev tmR (j : Nat) : Term := .static (roC j).1 (roC j).2 "[I"
set_option maxRecDepth 20000 in
theorem f_sa : ∀ j : Fin 4, Cond.arrayOf (tmR j.val) .int ∈ flC := by decide +kernel
set_option maxRecDepth 20000 in
theorem f_sl : ∀ j : Fin 4, Cond.eq (.length (tmR j.val)) (.int (Int32.ofNat (roV j.val).length)) ∈ flC := by decide +kernel
set_option maxRecDepth 20000 in
theorem f_se : ∀ j : Fin 4, ∀ i : Fin 24, i.val < (roV j.val).length → Cond.eq (.elem (tmR j.val) (.int (Int32.ofNat i.val))) (.int ((roV j.val).getD i.val 0)) ∈ flC := by decide +kernel
set_option maxRecDepth 20000 in
theorem f_cs : Cond.eq (.static "java/lang/String" "COMPACT_STRINGS" "Z") (.int 1) ∈ flC := by decide +kernel
set_option maxRecDepth 20000 in
theorem f_sf : Cond.isRef (.static "jdk/internal/util/Preconditions" "SIOOBE_FORMATTER" "Ljava/util/function/BiFunction;") ∈ flC := by decide +kernel
set_option maxRecDepth 20000 in
theorem v_st0 : Cond.laysStatic "LateSeekers" "LAW_AT_FIRST" "[I" ∈ lw_tbl ∧ Cond.initialized "LateSeekers" ∈ lw_tbl := ⟨List.mem_of_getElem? (i := 110) rfl, List.mem_of_getElem? (i := 69) rfl⟩
set_option maxRecDepth 20000 in
theorem v_st1 : Cond.laysStatic "LateSeekers" "LAW_MOST" "[I" ∈ lw_tbl ∧ Cond.initialized "LateSeekers" ∈ lw_tbl := ⟨List.mem_of_getElem? (i := 461) rfl, List.mem_of_getElem? (i := 69) rfl⟩
set_option maxRecDepth 20000 in
theorem v_st2 : Cond.laysStatic "LateSeekers" "KIND_ABOVE" "[I" ∈ lw_tbl ∧ Cond.initialized "LateSeekers" ∈ lw_tbl := ⟨List.mem_of_getElem? (i := 863) rfl, List.mem_of_getElem? (i := 69) rfl⟩
set_option maxRecDepth 20000 in
theorem v_st3 : Cond.laysStatic "LateSeekers$Actor" "BODIES" "[I" ∈ lw_tbl ∧ Cond.initialized "LateSeekers$Actor" ∈ lw_tbl := ⟨List.mem_of_getElem? (i := 877) rfl, List.mem_of_getElem? (i := 76) rfl⟩
set_option maxRecDepth 20000 in
theorem v_cs : Cond.laysStatic "java/lang/String" "COMPACT_STRINGS" "Z" ∈ lw_tbl ∧ Cond.initialized "java/lang/String" ∈ lw_tbl := ⟨List.mem_of_getElem? (i := 374) rfl, List.mem_of_getElem? (i := 78) rfl⟩
set_option maxRecDepth 20000 in
theorem v_sf : Cond.laysStatic "jdk/internal/util/Preconditions" "SIOOBE_FORMATTER" "Ljava/util/function/BiFunction;" ∈ lw_tbl ∧ Cond.initialized "jdk/internal/util/Preconditions" ∈ lw_tbl := ⟨List.mem_of_getElem? (i := 390) rfl, List.mem_of_getElem? (i := 80) rfl⟩
set_option maxRecDepth 20000 in
theorem v_sr : ∀ i, i < 16 → Cond.stringRef "LateSeekers$TapeReader" (strK.getD i (0, "")).1 (strK.getD i (0, "")).2 ∈ lw_tbl := by
  intro i hi
  match i, hi with
  | 0, _ => exact List.mem_of_getElem? (i := 421) rfl
  | 1, _ => exact List.mem_of_getElem? (i := 430) rfl
  | 2, _ => exact List.mem_of_getElem? (i := 435) rfl
  | 3, _ => exact List.mem_of_getElem? (i := 436) rfl
  | 4, _ => exact List.mem_of_getElem? (i := 466) rfl
  | 5, _ => exact List.mem_of_getElem? (i := 467) rfl
  | 6, _ => exact List.mem_of_getElem? (i := 355) rfl
  | 7, _ => exact List.mem_of_getElem? (i := 356) rfl
  | 8, _ => exact List.mem_of_getElem? (i := 357) rfl
  | 9, _ => exact List.mem_of_getElem? (i := 358) rfl
  | 10, _ => exact List.mem_of_getElem? (i := 359) rfl
  | 11, _ => exact List.mem_of_getElem? (i := 360) rfl
  | 12, _ => exact List.mem_of_getElem? (i := 452) rfl
  | 13, _ => exact List.mem_of_getElem? (i := 453) rfl
  | 14, _ => exact List.mem_of_getElem? (i := 454) rfl
  | 15, _ => exact List.mem_of_getElem? (i := 455) rfl
  | i + 16, h => exact absurd h (by omega)
set_option maxRecDepth 20000 in
theorem v_fna : Cond.fieldLinkNest "LateSeekers$Park" 43 "LateSeekers" "LAW_AT_FIRST" "[I" "LateSeekers" ∈ lw_tbl := List.mem_of_getElem? (i := 109) rfl
set_option maxRecDepth 20000 in
theorem v_fnb : Cond.fieldLinkNest "LateSeekers$TapeReader" 91 "LateSeekers" "LAW_MOST" "[I" "LateSeekers" ∈ lw_tbl := List.mem_of_getElem? (i := 460) rfl
set_option maxRecDepth 20000 in
theorem v_mn11 : Cond.methodLinkNest "LateSeekers" 11 ⟨"LateSeekers$Trials", "<init>", "()V"⟩ "LateSeekers" ∈ lw_tbl := List.mem_of_getElem? (i := 95) rfl
set_option maxRecDepth 20000 in
theorem v_mn29 : Cond.methodLinkNest "LateSeekers" 29 ⟨"LateSeekers$TapeReader", "<init>", "()V"⟩ "LateSeekers" ∈ lw_tbl := List.mem_of_getElem? (i := 187) rfl
set_option maxRecDepth 20000 in
theorem v_mn36 : Cond.methodLinkNest "LateSeekers" 36 ⟨"LateSeekers$Rows", "<init>", "()V"⟩ "LateSeekers" ∈ lw_tbl := List.mem_of_getElem? (i := 214) rfl
set_option maxRecDepth 20000 in
theorem v_mn43 : Cond.methodLinkNest "LateSeekers" 43 ⟨"LateSeekers$Sheets", "<init>", "()V"⟩ "LateSeekers" ∈ lw_tbl := List.mem_of_getElem? (i := 229) rfl
set_option maxRecDepth 20000 in
theorem v_mn50 : Cond.methodLinkNest "LateSeekers" 50 ⟨"LateSeekers$Shelves", "<init>", "()V"⟩ "LateSeekers" ∈ lw_tbl := List.mem_of_getElem? (i := 248) rfl
set_option maxRecDepth 20000 in
theorem v_mn57 : Cond.methodLinkNest "LateSeekers" 57 ⟨"LateSeekers$Actor", "<init>", "()V"⟩ "LateSeekers" ∈ lw_tbl := List.mem_of_getElem? (i := 267) rfl
def ad0 (st adK adV : Nat → Nat) (tf b : Nat) : Nat → Nat := fun k => if k < 904 then st (k - 900) else if k < 1100 then adK (k - 1000) else if k < 1200 then adV (k - 1100) else if k < 1300 then tf else b
theorem ad0_s {st adK adV : Nat → Nat} {tf b j : Nat} (h : j < 4) : ad0 st adK adV tf b (900 + j) = st j := by
  unfold ad0
  rw [if_pos (by omega), show 900 + j - 900 = j by omega]
theorem ad0_k {st adK adV : Nat → Nat} {tf b i : Nat} (h : i < 16) : ad0 st adK adV tf b (1000 + i) = adK i := by
  unfold ad0
  rw [if_neg (by omega), if_pos (by omega), show 1000 + i - 1000 = i by omega]
theorem ad0_v {st adK adV : Nat → Nat} {tf b i : Nat} (h : i < 16) : ad0 st adK adV tf b (1100 + i) = adV i := by
  unfold ad0
  rw [if_neg (by omega), if_neg (by omega), if_pos (by omega), show 1100 + i - 1100 = i by omega]

