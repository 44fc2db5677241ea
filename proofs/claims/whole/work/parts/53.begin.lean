/-! THE LAW: its beginning -/
abbrev flC : List Cond := flatC (Jvm.Cond.and given_1 narrow_1)
abbrev tmS (i : Nat) : Term := .string "LateSeekers$TapeReader" (strK.getD i (0, "")).1
abbrev tmV (i : Nat) : Term := .field (tmS i) "java/lang/String" "value" "[B"
set_option maxRecDepth 20000 in
theorem f_ex : ∀ i : Fin 16, Cond.exactly (tmS i.val) "java/lang/String" ∈ flC := by decide +kernel
set_option maxRecDepth 20000 in
theorem f_co : ∀ i : Fin 16, Cond.eq (.field (tmS i.val) "java/lang/String" "coder" "B") (.int 0) ∈ flC := by decide +kernel
set_option maxRecDepth 20000 in
theorem f_ar : ∀ i : Fin 16, Cond.arrayOf (tmV i.val) .byte ∈ flC := by decide +kernel
set_option maxRecDepth 20000 in
theorem f_le : ∀ i : Fin 16, Cond.eq (.length (tmV i.val)) (.int (Int32.ofNat (strL.getD i.val 0))) ∈ flC := by decide +kernel
set_option maxRecDepth 20000 in
theorem f_el : ∀ i : Fin 16, ∀ j : Fin 8, j.val < strL.getD i.val 0 → Cond.eq (.elem (tmV i.val) (.int (Int32.ofNat j.val))) (.int ((strB.getD i.val []).getD j.val 0)) ∈ flC := by decide +kernel
set_option maxRecDepth 20000 in
theorem f_ne : ∀ i : Fin 16, ∀ j : Fin 16, i.val ≠ j.val → Cond.not (Cond.eq (tmS i.val) (tmS j.val)) ∈ flC ∨ Cond.not (Cond.eq (tmS j.val) (tmS i.val)) ∈ flC := by decide +kernel
abbrev tmR (j : Nat) : Term := .static (roC j).1 (roC j).2 "[I"
set_option maxRecDepth 20000 in
theorem f_sa : ∀ j : Fin 4, Cond.arrayOf (tmR j.val) .int ∈ flC := by decide +kernel
set_option maxRecDepth 20000 in
theorem f_sl : ∀ j : Fin 4, Cond.eq (.length (tmR j.val)) (.int (Int32.ofNat (roV j.val).length)) ∈ flC := by decide +kernel
set_option maxRecDepth 20000 in
theorem f_se : ∀ j : Fin 4, ∀ i : Fin 24, i.val < (roV j.val).length → Cond.eq (.elem (tmR j.val) (.int (Int32.ofNat i.val))) (.int ((roV j.val).getD i.val 0)) ∈ flC := by decide +kernel
set_option maxRecDepth 20000 in
theorem f_cs : Cond.eq (.static "java/lang/String" "COMPACT_STRINGS" "Z") (.int 1) ∈ flC := by decide +kernel
set_option maxRecDepth 20000 in
theorem f_sf : Cond.isRef (.static "jdk/internal/util/Preconditions" "SIOOBE_FORMATTER" "Ljava/util/function/BiFunction;") ∈ flC := by decide +kernel
set_option maxRecDepth 20000 in
theorem v_st0 : Cond.laysStatic "LateSeekers" "LAW_AT_FIRST" "[I" ∈ lw_tbl ∧ Cond.initialized "LateSeekers" ∈ lw_tbl := ⟨List.mem_of_getElem? (i := 110) rfl, List.mem_of_getElem? (i := 69) rfl⟩
set_option maxRecDepth 20000 in
theorem v_st1 : Cond.laysStatic "LateSeekers" "LAW_MOST" "[I" ∈ lw_tbl ∧ Cond.initialized "LateSeekers" ∈ lw_tbl := ⟨List.mem_of_getElem? (i := 461) rfl, List.mem_of_getElem? (i := 69) rfl⟩
set_option maxRecDepth 20000 in
theorem v_st2 : Cond.laysStatic "LateSeekers" "KIND_ABOVE" "[I" ∈ lw_tbl ∧ Cond.initialized "LateSeekers" ∈ lw_tbl := ⟨List.mem_of_getElem? (i := 863) rfl, List.mem_of_getElem? (i := 69) rfl⟩
set_option maxRecDepth 20000 in
theorem v_st3 : Cond.laysStatic "LateSeekers$Actor" "BODIES" "[I" ∈ lw_tbl ∧ Cond.initialized "LateSeekers$Actor" ∈ lw_tbl := ⟨List.mem_of_getElem? (i := 877) rfl, List.mem_of_getElem? (i := 76) rfl⟩
set_option maxRecDepth 20000 in
theorem v_cs : Cond.laysStatic "java/lang/String" "COMPACT_STRINGS" "Z" ∈ lw_tbl ∧ Cond.initialized "java/lang/String" ∈ lw_tbl := ⟨List.mem_of_getElem? (i := 374) rfl, List.mem_of_getElem? (i := 78) rfl⟩
set_option maxRecDepth 20000 in
theorem v_sf : Cond.laysStatic "jdk/internal/util/Preconditions" "SIOOBE_FORMATTER" "Ljava/util/function/BiFunction;" ∈ lw_tbl ∧ Cond.initialized "jdk/internal/util/Preconditions" ∈ lw_tbl := ⟨List.mem_of_getElem? (i := 390) rfl, List.mem_of_getElem? (i := 80) rfl⟩
set_option maxRecDepth 20000 in
theorem v_sr : ∀ i, i < 16 → Cond.stringRef "LateSeekers$TapeReader" (strK.getD i (0, "")).1 (strK.getD i (0, "")).2 ∈ lw_tbl := by
  intro i hi
  match i, hi with
  | 0, _ => exact List.mem_of_getElem? (i := 421) rfl
  | 1, _ => exact List.mem_of_getElem? (i := 430) rfl
  | 2, _ => exact List.mem_of_getElem? (i := 435) rfl
  | 3, _ => exact List.mem_of_getElem? (i := 436) rfl
  | 4, _ => exact List.mem_of_getElem? (i := 466) rfl
  | 5, _ => exact List.mem_of_getElem? (i := 467) rfl
  | 6, _ => exact List.mem_of_getElem? (i := 355) rfl
  | 7, _ => exact List.mem_of_getElem? (i := 356) rfl
  | 8, _ => exact List.mem_of_getElem? (i := 357) rfl
  | 9, _ => exact List.mem_of_getElem? (i := 358) rfl
  | 10, _ => exact List.mem_of_getElem? (i := 359) rfl
  | 11, _ => exact List.mem_of_getElem? (i := 360) rfl
  | 12, _ => exact List.mem_of_getElem? (i := 452) rfl
  | 13, _ => exact List.mem_of_getElem? (i := 453) rfl
  | 14, _ => exact List.mem_of_getElem? (i := 454) rfl
  | 15, _ => exact List.mem_of_getElem? (i := 455) rfl
  | i + 16, h => exact absurd h (by omega)
set_option maxRecDepth 20000 in
theorem v_fna : Cond.fieldLinkNest "LateSeekers$Park" 43 "LateSeekers" "LAW_AT_FIRST" "[I" "LateSeekers" ∈ lw_tbl := List.mem_of_getElem? (i := 109) rfl
set_option maxRecDepth 20000 in
theorem v_fnb : Cond.fieldLinkNest "LateSeekers$TapeReader" 91 "LateSeekers" "LAW_MOST" "[I" "LateSeekers" ∈ lw_tbl := List.mem_of_getElem? (i := 460) rfl
set_option maxRecDepth 20000 in
theorem v_mn11 : Cond.methodLinkNest "LateSeekers" 11 ⟨"LateSeekers$Trials", "<init>", "()V"⟩ "LateSeekers" ∈ lw_tbl := List.mem_of_getElem? (i := 95) rfl
set_option maxRecDepth 20000 in
theorem v_mn29 : Cond.methodLinkNest "LateSeekers" 29 ⟨"LateSeekers$TapeReader", "<init>", "()V"⟩ "LateSeekers" ∈ lw_tbl := List.mem_of_getElem? (i := 187) rfl
set_option maxRecDepth 20000 in
theorem v_mn36 : Cond.methodLinkNest "LateSeekers" 36 ⟨"LateSeekers$Rows", "<init>", "()V"⟩ "LateSeekers" ∈ lw_tbl := List.mem_of_getElem? (i := 214) rfl
set_option maxRecDepth 20000 in
theorem v_mn43 : Cond.methodLinkNest "LateSeekers" 43 ⟨"LateSeekers$Sheets", "<init>", "()V"⟩ "LateSeekers" ∈ lw_tbl := List.mem_of_getElem? (i := 229) rfl
set_option maxRecDepth 20000 in
theorem v_mn50 : Cond.methodLinkNest "LateSeekers" 50 ⟨"LateSeekers$Shelves", "<init>", "()V"⟩ "LateSeekers" ∈ lw_tbl := List.mem_of_getElem? (i := 248) rfl
set_option maxRecDepth 20000 in
theorem v_mn57 : Cond.methodLinkNest "LateSeekers" 57 ⟨"LateSeekers$Actor", "<init>", "()V"⟩ "LateSeekers" ∈ lw_tbl := List.mem_of_getElem? (i := 267) rfl
def ad0 (st adK adV : Nat → Nat) (tf b : Nat) : Nat → Nat := fun k => if k < 904 then st (k - 900) else if k < 1100 then adK (k - 1000) else if k < 1200 then adV (k - 1100) else if k < 1300 then tf else b
theorem ad0_s {st adK adV : Nat → Nat} {tf b j : Nat} (h : j < 4) : ad0 st adK adV tf b (900 + j) = st j := by
  unfold ad0
  rw [if_pos (by omega), show 900 + j - 900 = j by omega]
theorem ad0_k {st adK adV : Nat → Nat} {tf b i : Nat} (h : i < 16) : ad0 st adK adV tf b (1000 + i) = adK i := by
  unfold ad0
  rw [if_neg (by omega), if_pos (by omega), show 1000 + i - 1000 = i by omega]
theorem ad0_v {st adK adV : Nat → Nat} {tf b i : Nat} (h : i < 16) : ad0 st adK adV tf b (1100 + i) = adV i := by
  unfold ad0
  rw [if_neg (by omega), if_neg (by omega), if_pos (by omega), show 1100 + i - 1100 = i by omega]
/-- what nobody writes, as it stands at the law's entry -/
theorem ro_start {s : State} {b : Nat} (hts : ∀ w ∈ lw_tbl, w.before #[Value.ref b] s = true) (hgv : (Jvm.Cond.and given_1 narrow_1).before #[Value.ref b] s = true) : ∃ ad : Nat → Nat, ad 1300 = b ∧ RO ad (fun q : Nat => s.heap.size ≤ q) s ∧ NL s := by
  have hs := flat_of_before _ hgv
  have hA : ∀ a : Nat, a < s.heap.size → ¬ (fun q : Nat => s.heap.size ≤ q) a := fun a h => Nat.not_le.mpr h
  obtain ⟨adK, adV, hS, hE⟩ := vk_Sof (args := #[Value.ref b]) (s := s) (N := 16) (tm := tmS) (len := strL) (byt := strB) (A := fun q : Nat => s.heap.size ≤ q) (fun i hi => Nat.lt_of_le_of_lt (str_le ⟨i, hi⟩) (by decide)) (fun i hi => hs _ (f_ex ⟨i, hi⟩)) (fun i hi => hs _ (f_co ⟨i, hi⟩)) (fun i hi => hs _ (f_ar ⟨i, hi⟩)) (fun i hi => hs _ (f_le ⟨i, hi⟩)) (fun i hi j hj => hs _ (f_el ⟨i, hi⟩ ⟨j, Nat.lt_of_lt_of_le hj (str_le ⟨i, hi⟩)⟩ hj)) (fun i j hi hj hij => (f_ne ⟨i, hi⟩ ⟨j, hj⟩ hij).imp (fun h => hs _ h) (fun h => hs _ h)) hA
  have hT : ∀ j, j < 4 → ∃ t : Nat, va_Z (roC j).1 (roC j).2 "[I" (.ref t) (fun q : Nat => s.heap.size ≤ q) s s.heap ∧ va_T .int t (roV j).length (fun i => .int ((roV j).getD i 0)) (fun q : Nat => s.heap.size ≤ q) s s.heap := by
    intro j hj
    have hlen : (roV j).length ≤ 24 := by
      match j, hj with
      | 0, _ => decide
      | 1, _ => decide
      | 2, _ => decide
      | 3, _ => decide
    obtain ⟨t, h1, h2⟩ := va_Tof (args := #[Value.ref b]) (s := s) (tm := tmR j) (ty := .int) (N := (roV j).length) (f := fun i => .int ((roV j).getD i 0)) (A := fun q : Nat => s.heap.size ≤ q) (by omega) (hs _ (f_sa ⟨j, hj⟩)) (va_eqt (hs _ (f_sl ⟨j, hj⟩))) (fun i hi => va_eqt (hs _ (f_se ⟨j, hj⟩ ⟨i, by omega⟩ hi))) hA
    refine ⟨t, ?_, h2⟩
    match j, hj with
    | 0, _ => exact va_Zof (hts _ v_st0.1) (hts _ v_st0.2) h1 hA
    | 1, _ => exact va_Zof (hts _ v_st1.1) (hts _ v_st1.2) h1 hA
    | 2, _ => exact va_Zof (hts _ v_st2.1) (hts _ v_st2.2) h1 hA
    | 3, _ => exact va_Zof (hts _ v_st3.1) (hts _ v_st3.2) h1 hA
  obtain ⟨t0, h0⟩ := hT 0 (by decide)
  obtain ⟨t1, h1⟩ := hT 1 (by decide)
  obtain ⟨t2, h2⟩ := hT 2 (by decide)
  obtain ⟨t3, h3⟩ := hT 3 (by decide)
  have hC : va_Z "java/lang/String" "COMPACT_STRINGS" "Z" (.int 1) (fun q : Nat => s.heap.size ≤ q) s s.heap := va_Zof (hts _ v_cs.1) (hts _ v_cs.2) (va_eqt (hs _ f_cs)) hA
  have hQ := va_Zqof (hts _ v_sf.1) (hts _ v_sf.2) (hs _ f_sf) hA
  obtain ⟨tf, hF⟩ : ∃ tf : Nat, va_Z "jdk/internal/util/Preconditions" "SIOOBE_FORMATTER" "Ljava/util/function/BiFunction;" .null (fun q : Nat => s.heap.size ≤ q) s s.heap ∨ va_Z "jdk/internal/util/Preconditions" "SIOOBE_FORMATTER" "Ljava/util/function/BiFunction;" (.ref tf) (fun q : Nat => s.heap.size ≤ q) s s.heap := by
    rcases hQ with h | ⟨t, h⟩
    · exact ⟨0, Or.inl h⟩
    · exact ⟨t, Or.inr h⟩
  refine ⟨ad0 (fun j => [t0, t1, t2, t3].getD j 0) adK adV tf b, rfl, ⟨fun j hj => ?_, ⟨fun i hi => ?_, fun i j hi hj e => ?_⟩, fun i hi => ?_, hC, hF, va_Nw.of rfl (hts _ v_fna), va_Nw.of rfl (hts _ v_fnb)⟩, ⟨va_Nw.of rfl (hts _ v_mn11), va_Nw.of rfl (hts _ v_mn29), va_Nw.of rfl (hts _ v_mn36), va_Nw.of rfl (hts _ v_mn43), va_Nw.of rfl (hts _ v_mn50), va_Nw.of rfl (hts _ v_mn57)⟩⟩
  · rw [ad0_s hj]
    match j, hj with
    | 0, _ => exact h0
    | 1, _ => exact h1
    | 2, _ => exact h2
    | 3, _ => exact h3
  · have := hS.1 i hi
    show va_O _ (ad0 _ _ _ _ _ (1000 + i)) _ s s.heap ∧ va_OF _ _ _ _ (ad0 _ _ _ _ _ (1000 + i)) _ s s.heap ∧ va_OF _ _ _ (.ref (ad0 _ _ _ _ _ (1100 + i))) (ad0 _ _ _ _ _ (1000 + i)) _ s s.heap ∧ va_T _ (ad0 _ _ _ _ _ (1100 + i)) _ _ _ s s.heap
    rw [ad0_k hi, ad0_v hi]
    exact this
  · have e1 : ad0 (fun j => [t0, t1, t2, t3].getD j 0) adK adV tf b (1000 + i) = ad0 (fun j => [t0, t1, t2, t3].getD j 0) adK adV tf b (1000 + j) := e
    rw [ad0_k hi, ad0_k hj] at e1
    exact hS.2 i j hi hj e1
  · rw [ad0_k hi]
    exact vk_R.of (hts _ (v_sr i hi)) (hE i hi)
theorem tb_in {w : Cond} (h : w ∈ tb) : w ∈ lw_tbl := (List.mem_filter.mp h).1
set_option maxRecDepth 20000 in
theorem vi_LS : Cond.instantiable R_LS 9 ∈ tb := tb_mem 86 rfl rfl
set_option maxRecDepth 20000 in
theorem vi_Pk : Cond.instantiable R_Pk 12 ∈ tb := tb_mem 100 rfl rfl
set_option maxRecDepth 20000 in
theorem vi_Tr : Cond.instantiable R_Tr 2 ∈ tb := tb_mem 94 rfl rfl
set_option maxRecDepth 20000 in
theorem vi_Tp : Cond.instantiable R_Tp 6 ∈ tb := tb_mem 186 rfl rfl
set_option maxRecDepth 20000 in
theorem vi_Rw : Cond.instantiable R_Rw 2 ∈ tb := tb_mem 213 rfl rfl
set_option maxRecDepth 20000 in
theorem vi_Sh : Cond.instantiable R_Sh 3 ∈ tb := tb_mem 228 rfl rfl
set_option maxRecDepth 20000 in
theorem vi_Sv : Cond.instantiable R_Sv 3 ∈ tb := tb_mem 247 rfl rfl
set_option maxRecDepth 20000 in
theorem vi_Ac : Cond.instantiable R_Ac 6 ∈ tb := tb_mem 266 rfl rfl
set_option maxRecDepth 20000 in
theorem vi_Md : Cond.instantiable R_Md 27 ∈ tb := tb_mem 904 rfl rfl
theorem arr_k {s : State} {args : Array Value} {ty : FieldType} (h : (Cond.arrayClass ty).before args s = true) (ho : ∀ C, ty ≠ .object C) : ∃ cA, ArrOfT s cA ty ∧ va_RA s cA ty := by
  obtain ⟨cA, kA, comp, h1, h2, h3⟩ := Cond.arrayClass_spec h
  refine ⟨cA, fun n z => ⟨fun k h => (by cases h), kA, h2, comp, h3⟩, ?_⟩
  cases ty with
  | object C => exact absurd rfl (ho C)
  | _ => exact h1
theorem vk_start {s : State} {args : Array Value} (htb : ∀ w ∈ tb, w.before args s = true) : ∃ (dC : Nat → ClassId) (dI : Nat → Nat → Nat) (cI cB : ClassId), va_K (dC, dI) classes (tyl cI cB) s := by
  obtain ⟨c0, i0, k0⟩ := u_known (C := R_LS) (T := F_LS) (N := 9) (n := 9) htb i_LS (htb _ vi_LS)
  obtain ⟨c1, i1, k1⟩ := u_known (C := R_Pk) (T := F_Pk) (N := 12) (n := 12) htb i_Pk (htb _ vi_Pk)
  obtain ⟨c2, i2, k2⟩ := u_known (C := R_Tr) (T := F_Tr) (N := 2) (n := 2) htb i_Tr (htb _ vi_Tr)
  obtain ⟨c3, i3, k3⟩ := u_known (C := R_Tp) (T := F_Tp) (N := 6) (n := 6) htb i_Tp (htb _ vi_Tp)
  obtain ⟨c4, i4, k4⟩ := u_known (C := R_Rw) (T := F_Rw) (N := 2) (n := 2) htb i_Rw (htb _ vi_Rw)
  obtain ⟨c5, i5, k5⟩ := u_known (C := R_Sh) (T := F_Sh) (N := 3) (n := 3) htb i_Sh (htb _ vi_Sh)
  obtain ⟨c6, i6, k6⟩ := u_known (C := R_Sv) (T := F_Sv) (N := 3) (n := 3) htb i_Sv (htb _ vi_Sv)
  obtain ⟨c7, i7, k7⟩ := u_known (C := R_Ac) (T := F_Ac) (N := 6) (n := 6) htb i_Ac (htb _ vi_Ac)
  obtain ⟨c8, i8, k8⟩ := u_known (C := R_Md) (T := F_Md) (N := 27) (n := 27) htb i_Md (htb _ vi_Md)
  obtain ⟨cI, hI1, hI2⟩ := arr_k (htb _ arr_I) (fun C h => by cases h)
  obtain ⟨cB, hB1, hB2⟩ := arr_k (htb _ arr_B) (fun C h => by cases h)
  refine ⟨fun k => [c0, c1, c2, c3, c4, c5, c6, c7, c8].getD k c0, fun k => [i0, i1, i2, i3, i4, i5, i6, i7, i8].getD k i0, cI, cB, fun k q hq => ?_, fun k q hq => ?_⟩
  · match k, hq with
    | 0, hq => cases hq; exact k0
    | 1, hq => cases hq; exact k1
    | 2, hq => cases hq; exact k2
    | 3, hq => cases hq; exact k3
    | 4, hq => cases hq; exact k4
    | 5, hq => cases hq; exact k5
    | 6, hq => cases hq; exact k6
    | 7, hq => cases hq; exact k7
    | 8, hq => cases hq; exact k8
    | k + 9, hq => simp [classes] at hq
  · match k, hq with
    | 0, hq => cases hq; exact ⟨hI1, hI2⟩
    | 1, hq => cases hq; exact ⟨hB1, hB2⟩
    | k + 2, hq => simp [tyl] at hq
theorem w_to {Γ : WC} {Λ : Lay} {p : Program} {l : Launch} {e : Env} {R : Room} {s : State} {m : MethodId} {args : Array Value} {below : List Frame} {meth : Method} {c : Code} {Q : State → Prop} {dC : Nat → ClassId} {dI : Nat → Nat → Nat} {cI cB : ClassId} {ad ad' : Nat → Nat} {A : Nat → Prop} {ws : va_W} {σ : Store} {k n pc : Nat} {L L' : List (Option Value)} (hws : ws = wr cI cB ad' σ 0 Λ) (had : ∀ z, 900 ≤ z → ad' z = ad z) (hL : ∀ (i : Nat) (v : Value), L'[i]? = some (some v) → L[i]? = some (some (cv ad' v))) (hk : k ≤ Γ.2.2.1) (hn : n ≤ Γ.2.2.2) (kk : G (Λ, Γ.1, Γ.2.1) ((p, l, e, R), (s, m, args, below), (meth, c, Q), (dC, dI, cI, cB), (ad', A, k, n)) σ L' [] pc) : GW Γ ((p, l, e, R), (s, m, args, below), (meth, c, Q), (dC, dI, cI, cB), (ad, A)) ws k n L [] pc := by
  intro ok H locs ls hP hD hS hl
  obtain ⟨hx, hb, hm, hown, hts, hK, hA, hRO, hfr, hlo, hce, hsl, -⟩ := ok
  subst hws
  obtain ⟨hAp, hAk⟩ := wr_Ap hD
  refine kk ⟨hx, hb, hm, hown, hts, hK, hAp, hAk, hRO.1.re had, hfr, hlo, by omega, by omega⟩ H locs ls hP hS ⟨hl.1, hl.2.1, fun i v hv => ?_⟩
  have := hl.2.2 i _ (hL i v hv)
  rw [cv_id] at this
  exact this
theorem w_astore {Γ : WC} {X : WX} {ws : va_W} {k n : Nat} {L L' : List (Option Value)} {st : List Value} {pc : Nat} {i : Fin 4} {v : Nat} (hd : decode Γ.1.2.1 pc = .ok (.astore_n i, 1)) (hn : (i : Nat) < Γ.1.2.2.1) (hL : st1 L (i : Nat) (.ref v) = L') (kk : GW Γ X ws k n L' st (pc + 1)) : GW Γ X ws k n L (.ref v :: st) pc := by
  obtain ⟨⟨p, l, e, R⟩, ⟨s, m, args, below⟩, ⟨meth, c, Q⟩, ⟨dC, dI, cI, cB⟩, ⟨ad, A⟩⟩ := X
  intro ok H locs ls hP hD hS hl
  have h1 := fun ls hl => kk ok H locs ls hP hD hS hl
  obtain ⟨hx, hb, -⟩ := ok
  exact lv_astore_n (v := .ref v) hx hb hd rfl (lh_pairs hl) hn rfl (fun ls' hl' => h1 ls' (lh_st1 (v := .ref v) hl' hL))
theorem w_istore {Γ : WC} {X : WX} {ws : va_W} {k n : Nat} {L L' : List (Option Value)} {st : List Value} {pc : Nat} {i : Fin 4} {v : Int32} (hd : decode Γ.1.2.1 pc = .ok (.istore_n i, 1)) (hn : (i : Nat) < Γ.1.2.2.1) (hL : st1 L (i : Nat) (.int v) = L') (kk : GW Γ X ws k n L' st (pc + 1)) : GW Γ X ws k n L (.int v :: st) pc := by
  obtain ⟨⟨p, l, e, R⟩, ⟨s, m, args, below⟩, ⟨meth, c, Q⟩, ⟨dC, dI, cI, cB⟩, ⟨ad, A⟩⟩ := X
  intro ok H locs ls hP hD hS hl
  have h1 := fun ls hl => kk ok H locs ls hP hD hS hl
  obtain ⟨hx, hb, -⟩ := ok
  exact lv_istore_n (v := v) hx hb hd rfl (lh_pairs hl) hn rfl (fun ls' hl' => h1 ls' (lh_st1 (v := .int v) hl' hL))
/-- a new object of each: they stand in the relation -/
theorem RX.new {σ τ : Store} (h : CI σ) (m : MI τ) : RX σ τ (τ 1) := by
  obtain ⟨c1, c2, c3, ⟨c4, c5⟩, c6, c7, c8⟩ := h
  obtain ⟨⟨m1, m2, m3, m4⟩, m5, m6, m7⟩ := m
  rw [m5]
  refine ⟨c1, Or.inl ⟨c2, m1⟩, ⟨0, c3, ⟨m2, by decide, fun i hi => absurd hi (Nat.not_lt_zero _)⟩, fun i hi => absurd hi (Nat.not_lt_zero _)⟩, ⟨0, by decide, c4, m3, fun j _ => (c5 j).trans (m6 j).symm⟩, ⟨fun t ht => ⟨Or.inl (m7 t ht).1, by rw [(m7 t ht).2.1]; exact Rng.of (by decide)⟩, fun t ht => ⟨(c6 t ht).1.trans (m7 t ht).1.symm, (c6 t ht).2.trans (m7 t ht).2.1.symm, fun i hi => ?_⟩⟩, fun i hi => Or.inl ⟨(m7 i hi).2.2, (c7 i hi).1, (c7 i hi).2⟩, ⟨0, by decide, c8, m4, fun i hi => absurd hi (Nat.not_lt_zero _)⟩⟩
  rw [(m7 t ht).2.1, tn_nI (by decide)] at hi
  exact absurd hi (Nat.not_lt_zero _)
set_option maxHeartbeats 4000000 in
set_option maxRecDepth 20000 in
theorem whole_start {p : Program} {e : Env} {s : State} {m : MethodId} {below : List Frame} {meth : Method} {c : Code} (l : Launch) {b L : Nat} {xs : Nat → Int32} (hL : L ≤ 3072) (C0 : lw_At p s m meth c b L xs) : W p l e room_1 s m #[Value.ref b] below meth c s.heap [] 0 0 (lw_Z below #[Value.ref b] s) (entryFrame m ([Value.ref b] : List Value).toArray 4) := by
  obtain ⟨hx, hb, hr, hml, hown, hts, hX, hbl, hlocks, hgv⟩ := id C0
  have htb : ∀ w ∈ tb, w.before #[Value.ref b] s = true := fun w hw => hts w (tb_in hw)
  obtain ⟨ad, h13, hRO, hNL⟩ := ro_start hts hgv
  obtain ⟨dC, dI, cI, cB, hK⟩ := vk_start htb
  have hP : va_P (dC, dI) classes [] s.heap := fun k q h => by simp at h
  have hD : va_D (fun q : Nat => s.heap.size ≤ q) [] := ⟨fun i j p q h => by simp at h, fun k q h => by simp at h⟩
  have hl := lv_entry ([.ref b]) (n := 4) (Nat.le_of_ble_eq_true rfl)
  rw [lg_entry_eq]
  generalize (lg_sl ([.ref b]) ++ List.replicate (4 - (lg_sl ([.ref b])).length) Slot.unset).toArray = ls at hl ⊢
  have hl0 : lh ls 4 idA [some (.ref b), none, none, none] := lh_ent (as := [.ref b]) (ad := idA) hl
  suffices h : GW (mt_Law, 30, 58, 1446) ((p, l, e, room_1), (s, m, #[Value.ref b], below), (meth, c, lw_Z below #[Value.ref b] s), (dC, dI, cI, cB), (ad, fun q : Nat => s.heap.size ≤ q)) [] 0 0 [some (.ref b), none, none, none] [] 0 from h ⟨hx, hb, hml, hown, htb, hK, fun _ h => h, ⟨hRO, hNL⟩, by decide, by decide, by decide, by decide, fun h => by cases h⟩ s.heap [] ls hP hD va_S.rf hl0
  refine w_new (ci := 0) (C := R_LS) (T := F_LS) (N := 9) (ty := t_LS) (fs := [.null, .null, .int 0, .null, .null, .null, .null, .null, .null]) (by decide +kernel : decode code 0 = .ok (.new 7, 3)) rfl i_LS t_LS_ok lc_Law_7 df_LS (by decide) (by decide) (fun q0 => ?_)
  refine w_dup (by decide +kernel : decode code 3 = .ok (.dup, 1)) rfl ?_
  refine w_init (ws0 := ([] : va_W)) (q := q0) (by decide +kernel : decode code 4 = .ok (.invokespecial 9, 3)) lm_Law_9 li_LS i_init_LS rfl (Nat.le_of_ble_eq_true rfl) (by decide) (by decide) (by decide) (fun a4 t4 e4 p4 => ?_)
  rw [← e4]
  refine w_astore (L' := [some (.ref b), some (.ref (a4 0)), none, none]) (by decide +kernel : decode code 7 = .ok (.astore_n 1, 1)) (Nat.le_of_ble_eq_true rfl) rfl ?_
  refine w_ws (show _ = wr cI cB a4 t4 0 ΛC from rfl) ?_
  refine w_new (ci := 8) (C := R_Md) (T := F_Md) (N := 27) (ty := t_Md) (fs := [.null, .null, .null, .null, .int 0, .null, .int 0, .int 0, .int 0, .int 0, .int 0, .int 0, .null, .null, .int 0, .null, .null, .null, .null, .null, .null, .null, .int 0, .int 0, .int 0, .int 0, .int 0]) (by decide +kernel : decode code 8 = .ok (.new 10, 3)) rfl i_Md t_Md_ok lc_Law_10 df_Md (by decide) (by decide) (fun q8 => ?_)
  refine w_dup (by decide +kernel : decode code 11 = .ok (.dup, 1)) rfl ?_
  refine w_init (ws0 := (wr cI cB a4 t4 0 ΛC)) (q := q8) (by decide +kernel : decode code 12 = .ok (.invokespecial 12, 3)) lm_Law_12 li_Md i_init_Md rfl (Nat.le_of_ble_eq_true rfl) (by decide) (by decide) (by decide) (fun a12 t12 e12 p12 => ?_)
  rw [← e12]
  refine w_astore (L' := [some (.ref b), some (.ref (a4 0)), some (.ref (a12 0)), none]) (by decide +kernel : decode code 15 = .ok (.astore_n 2, 1)) (Nat.le_of_ble_eq_true rfl) rfl ?_
  refine w_ws (show _ = wr cI cB (fun z => if z < 43 then a4 z else if z < 58 then a12 (z - 43) else ad z) (fun z => if z < 43 then t4 z else t12 (z - 43)) 0 ΛL from rfl) ?_
  refine w_iconst (v := nI 0) (by decide +kernel : decode code 16 = .ok (.iconst 0, 1)) (by decide) ?_
  refine w_istore (L' := [some (.ref b), some (.ref (a4 0)), some (.ref (a12 0)), some (.int (nI 0))]) (by decide +kernel : decode code 17 = .ok (.istore_n 3, 1)) (Nat.le_of_ble_eq_true rfl) rfl ?_
  refine w_to (Λ := ΛL) (ad' := (fun z => if z < 43 then a4 z else if z < 58 then a12 (z - 43) else ad z)) (σ := (fun z => if z < 43 then t4 z else t12 (z - 43))) (L' := [some (.ref 1300), some (.ref 0), some (.ref 43), some (.int (nI 0))]) rfl (fun z hz => by rw [if_neg (by omega), if_neg (by omega)]) (fun i v hv => ?_) (by decide) (by decide) ?_
  · match i, hv with
    | 0, hv => cases hv; show some (some (Value.ref b)) = some (some (Value.ref (ad 1300))); rw [h13]
    | 1, hv => cases hv; rfl
    | 2, hv => cases hv; rfl
    | 3, hv => cases hv; rfl
    | i + 4, hv => simp at hv
  · have hJ : Jv (fun z => if z < 43 then t4 z else t12 (z - 43)) := by
      have hM : ∀ k, k < 15 → sub ixM (fun z => if z < 43 then t4 z else t12 (z - 43)) k = t12 k := fun k hk => (subM hk).trans (by show (if 43 + k < 43 then _ else t12 (43 + k - 43)) = _; rw [if_neg (by omega), show 43 + k - 43 = k by omega])
      unfold Jv
      rw [hM 1 (by decide)]
      exact (RX.new p4 p12).cg (fun k hk => (subC hk).trans (if_pos hk)) (hM 0 (by decide)) (hM 2 (by decide)) (hM 5 (by decide)) (hM 7 (by decide)) (hM 8 (by decide)) (hM 9 (by decide)) (hM 10 (by decide)) (hM 11 (by decide)) (hM 12 (by decide)) (hM 13 (by decide)) (hM 14 (by decide))
    exact law_loop (b := b) (L := L) (xs := xs) ⟨hX, hbl, Nat.not_le.mpr hbl, h13⟩ hL ⟨rfl, rfl, rfl, rfl, hr, hlocks, by decide, by decide⟩ (L + 7) 0 _ hJ (by omega) (by omega)
