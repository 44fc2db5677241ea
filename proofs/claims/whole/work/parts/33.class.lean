/-! THE PROGRAM: what it takes of the JDK; a park -/
abbrev ΛP : Lay := [.inr (1, [some 1, some 2, some 3, some 4, some 5, some 6, some 7, some 8, none, none, none, none]), .inl (false, 4), .inl (false, 12), .inl (false, 8), .inl (false, 8), .inl (false, 8), .inl (false, 8), .inl (false, 8), .inl (false, 8)]
/-- as Ct.of, of a type that has entries in the machine, for a member that has none -/
theorem Ct.ofF {Λ : Lay} {μ : Mt} {d : Nat} {as : List Value} {σ : Store} {Post : Option Value → Store → Prop} (hy : plainFor μ.1 = true) (hfit : (lg_sl as).length ≤ μ.2.2.1) (body : ∀ X, Rt (Λ, μ, d) Post X → G (Λ, μ, d) X σ (ent as μ.2.2.1) [] 0) : Ct Λ μ d as σ Post := by
  intro l dC dI cI cB ad
  refine va_MetF (cc := μ.2.1) (maxL := μ.2.2.1) (ret := μ.2.2.2) hy rfl ?_
  intro p e s m args below meth c s₁ B hml hv
  obtain ⟨rfl, hP, hK, hAp, hRO⟩ := hv
  have hts := atoms_spec (ws := wds μ) B.pre
  have hown : s.vm.findClass μ.1.cls = some m.cls := findClass_of_methodNamed B.named
  have hlen : (lg_sl (as.map (cv ad))).length ≤ μ.2.2.1 := by
    have : (lg_sl (as.map (cv ad))).length = (lg_sl as).length := by
      unfold lg_sl
      rw [List.length_flatMap, List.length_flatMap, List.map_map]
      congr 1
      apply List.map_congr_left
      intro v _
      show (if (cv ad v).category = 2 then _ else _ : List Slot).length = _
      rw [cv_cat]
      split <;> rfl
    omega
  have hl := lv_entry (as.map (cv ad)) hlen
  rw [lg_entry_eq]
  generalize (lg_sl (as.map (cv ad)) ++ List.replicate (μ.2.2.1 - (lg_sl (as.map (cv ad))).length) Slot.unset).toArray = ls at hl ⊢
  exact body ((p, l, e, (headSpec (wds μ) (rmd d)).room), (s, m, (as.map (cv ad)).toArray, below), (meth, c, MQ below (Qw Λ dC dI cI cB ad Post) (as.map (cv ad)).toArray s 0 0 (Aw Λ ad)), (dC, dI, cI, cB), (ad, Aw Λ ad, 0, 0))
    ⟨B.returns, B.notSynchronized, rfl, rfl, rfl, rfl⟩ ⟨B.exec, B.bytes, hml, hown, fun w hw => hts w (List.mem_cons_of_mem _ hw), hK, hAp, fun k hk => ⟨k, hk, rfl⟩, hRO, Nat.le_refl _, Nat.le_refl _, Nat.zero_le _, Nat.zero_le _⟩ s.heap [] ls hP va_S.rf (lh_ent hl)
def bcE (x : Int32) : Int32 :=
  let a := x - ((Int32.toUInt32 x >>> (Int32.toUInt32 (nI 1) &&& Int32.toUInt32 31)).toInt32 &&& 1431655765)
  let b := (a &&& 858993459) + ((Int32.toUInt32 a >>> (Int32.toUInt32 (nI 2) &&& Int32.toUInt32 31)).toInt32 &&& 858993459)
  let c := (b + (Int32.toUInt32 b >>> (Int32.toUInt32 (nI 4) &&& Int32.toUInt32 31)).toInt32) &&& 252645135
  let d := c + (Int32.toUInt32 c >>> (Int32.toUInt32 (nI 8) &&& Int32.toUInt32 31)).toInt32
  let e := d + (Int32.toUInt32 d >>> (Int32.toUInt32 (nI 16) &&& Int32.toUInt32 31)).toInt32
  e &&& nI 63
set_option maxRecDepth 100000 in
theorem bcE_n0 : ∀ a : Fin 4096, bcE (nI a.val) = nI (popc a.val) := by decide +kernel
theorem bcE_n {a : Nat} (h : a < 4096) : bcE (nI a) = nI (popc a) := bcE_n0 ⟨a, h⟩
set_option maxRecDepth 20000 in
theorem m_bitC (Λ : Lay) (σ : Store) (x : Int32) : Ct Λ mt_Integer_bitCount 0 [.int x] σ (PF (bcE x) σ) := by
  refine Ct.of (by decide) (Nat.le_of_ble_eq_true rfl) (fun X hR => ?_)
  show G (Λ, mt_Integer_bitCount, 0) X σ [some (.int x)] [] 0
  refine g_iload_n (by decide +kernel : decode prog_11_method_49_code 0 = .ok (.iload_n 0, 1)) rfl ?_
  refine g_iload_n (by decide +kernel : decode prog_11_method_49_code 1 = .ok (.iload_n 0, 1)) rfl ?_
  refine g_iconst (v := nI 1) (by decide +kernel : decode prog_11_method_49_code 2 = .ok (.iconst 1, 1)) (by decide) ?_
  refine g_iushr (by decide +kernel : decode prog_11_method_49_code 3 = .ok (.iushr, 1)) ?_
  refine g_ldcw (by decide +kernel : decode prog_11_method_49_code 4 = .ok (.ldc_w 265, 3)) kc_Integer_265 ?_
  refine g_iand (by decide +kernel : decode prog_11_method_49_code 7 = .ok (.iand, 1)) ?_
  refine g_isub (by decide +kernel : decode prog_11_method_49_code 8 = .ok (.isub, 1)) ?_
  generalize ea : x - (((Int32.toUInt32 x >>> (Int32.toUInt32 (nI 1) &&& Int32.toUInt32 31)).toInt32) &&& 1431655765) = va
  refine g_istore_n (L' := [some (.int va)]) (by decide +kernel : decode prog_11_method_49_code 9 = .ok (.istore_n 0, 1)) (Nat.le_of_ble_eq_true rfl) rfl ?_
  refine g_iload_n (by decide +kernel : decode prog_11_method_49_code 10 = .ok (.iload_n 0, 1)) rfl ?_
  refine g_ldcw (by decide +kernel : decode prog_11_method_49_code 11 = .ok (.ldc_w 266, 3)) kc_Integer_266 ?_
  refine g_iand (by decide +kernel : decode prog_11_method_49_code 14 = .ok (.iand, 1)) ?_
  refine g_iload_n (by decide +kernel : decode prog_11_method_49_code 15 = .ok (.iload_n 0, 1)) rfl ?_
  refine g_iconst (v := nI 2) (by decide +kernel : decode prog_11_method_49_code 16 = .ok (.iconst 2, 1)) (by decide) ?_
  refine g_iushr (by decide +kernel : decode prog_11_method_49_code 17 = .ok (.iushr, 1)) ?_
  refine g_ldcw (by decide +kernel : decode prog_11_method_49_code 18 = .ok (.ldc_w 266, 3)) kc_Integer_266 ?_
  refine g_iand (by decide +kernel : decode prog_11_method_49_code 21 = .ok (.iand, 1)) ?_
  refine g_iadd (by decide +kernel : decode prog_11_method_49_code 22 = .ok (.iadd, 1)) ?_
  generalize eb : (va &&& 858993459) + (((Int32.toUInt32 va >>> (Int32.toUInt32 (nI 2) &&& Int32.toUInt32 31)).toInt32) &&& 858993459) = vb
  refine g_istore_n (L' := [some (.int vb)]) (by decide +kernel : decode prog_11_method_49_code 23 = .ok (.istore_n 0, 1)) (Nat.le_of_ble_eq_true rfl) rfl ?_
  refine g_iload_n (by decide +kernel : decode prog_11_method_49_code 24 = .ok (.iload_n 0, 1)) rfl ?_
  refine g_iload_n (by decide +kernel : decode prog_11_method_49_code 25 = .ok (.iload_n 0, 1)) rfl ?_
  refine g_iconst (v := nI 4) (by decide +kernel : decode prog_11_method_49_code 26 = .ok (.iconst 4, 1)) (by decide) ?_
  refine g_iushr (by decide +kernel : decode prog_11_method_49_code 27 = .ok (.iushr, 1)) ?_
  refine g_iadd (by decide +kernel : decode prog_11_method_49_code 28 = .ok (.iadd, 1)) ?_
  refine g_ldcw (by decide +kernel : decode prog_11_method_49_code 29 = .ok (.ldc_w 267, 3)) kc_Integer_267 ?_
  refine g_iand (by decide +kernel : decode prog_11_method_49_code 32 = .ok (.iand, 1)) ?_
  generalize ec : (vb + ((Int32.toUInt32 vb >>> (Int32.toUInt32 (nI 4) &&& Int32.toUInt32 31)).toInt32)) &&& 252645135 = vc
  refine g_istore_n (L' := [some (.int vc)]) (by decide +kernel : decode prog_11_method_49_code 33 = .ok (.istore_n 0, 1)) (Nat.le_of_ble_eq_true rfl) rfl ?_
  refine g_iload_n (by decide +kernel : decode prog_11_method_49_code 34 = .ok (.iload_n 0, 1)) rfl ?_
  refine g_iload_n (by decide +kernel : decode prog_11_method_49_code 35 = .ok (.iload_n 0, 1)) rfl ?_
  refine g_bipush (v := nI 8) (by decide +kernel : decode prog_11_method_49_code 36 = .ok (.bipush 8, 2)) (by decide) ?_
  refine g_iushr (by decide +kernel : decode prog_11_method_49_code 38 = .ok (.iushr, 1)) ?_
  refine g_iadd (by decide +kernel : decode prog_11_method_49_code 39 = .ok (.iadd, 1)) ?_
  generalize ed : vc + ((Int32.toUInt32 vc >>> (Int32.toUInt32 (nI 8) &&& Int32.toUInt32 31)).toInt32) = vd
  refine g_istore_n (L' := [some (.int vd)]) (by decide +kernel : decode prog_11_method_49_code 40 = .ok (.istore_n 0, 1)) (Nat.le_of_ble_eq_true rfl) rfl ?_
  refine g_iload_n (by decide +kernel : decode prog_11_method_49_code 41 = .ok (.iload_n 0, 1)) rfl ?_
  refine g_iload_n (by decide +kernel : decode prog_11_method_49_code 42 = .ok (.iload_n 0, 1)) rfl ?_
  refine g_bipush (v := nI 16) (by decide +kernel : decode prog_11_method_49_code 43 = .ok (.bipush 16, 2)) (by decide) ?_
  refine g_iushr (by decide +kernel : decode prog_11_method_49_code 45 = .ok (.iushr, 1)) ?_
  refine g_iadd (by decide +kernel : decode prog_11_method_49_code 46 = .ok (.iadd, 1)) ?_
  generalize ee : vd + ((Int32.toUInt32 vd >>> (Int32.toUInt32 (nI 16) &&& Int32.toUInt32 31)).toInt32) = ve
  refine g_istore_n (L' := [some (.int ve)]) (by decide +kernel : decode prog_11_method_49_code 47 = .ok (.istore_n 0, 1)) (Nat.le_of_ble_eq_true rfl) rfl ?_
  refine g_iload_n (by decide +kernel : decode prog_11_method_49_code 48 = .ok (.iload_n 0, 1)) rfl ?_
  refine g_bipush (v := nI 63) (by decide +kernel : decode prog_11_method_49_code 49 = .ok (.bipush 63, 2)) (by decide) ?_
  refine g_iand (by decide +kernel : decode prog_11_method_49_code 51 = .ok (.iand, 1)) ?_
  exact g_iret hR (by decide +kernel : decode prog_11_method_49_code 52 = .ok (.ireturn, 1)) rfl ⟨_, rfl, ⟨by subst ee; subst ed; subst ec; subst eb; subst ea; rfl, rfl⟩⟩
theorem m_bitCount (Λ : Lay) (σ : Store) {a : Nat} (h : a < 4096) : Ct Λ mt_Integer_bitCount 0 [.int (nI a)] σ (PF (nI (popc a)) σ) := by
  rw [← bcE_n h]; exact m_bitC Λ σ (nI a)
set_option maxRecDepth 20000 in
theorem m_min (Λ : Lay) (σ : Store) (x y : Int32) : Ct Λ mt_Math_min 0 [.int x, .int y] σ (PF (if y < x then y else x) σ) := by
  refine Ct.ofF (by decide +kernel) (Nat.le_of_ble_eq_true rfl) (fun X hR => ?_)
  show G (Λ, mt_Math_min, 0) X σ [some (.int x), some (.int y)] [] 0
  refine g_iload_n (by decide +kernel : decode prog_12_method_69_code 0 = .ok (.iload_n 0, 1)) rfl ?_
  refine g_iload_n (by decide +kernel : decode prog_12_method_69_code 1 = .ok (.iload_n 1, 1)) rfl ?_
  refine g_icmp_gt (tgt := 9) (by decide +kernel : decode prog_12_method_69_code 2 = .ok (.if_icmp .gt 7, 3)) (by decide) (fun h2 => ?_) (fun h2 => ?_)
  · refine g_iload_n (by decide +kernel : decode prog_12_method_69_code 9 = .ok (.iload_n 1, 1)) rfl ?_
    exact g_iret hR (by decide +kernel : decode prog_12_method_69_code 10 = .ok (.ireturn, 1)) rfl ⟨_, rfl, ⟨by first | rw [if_pos h2] | rw [if_neg h2] | rw [if_pos (Int32.not_le.mp h2)] | rw [if_neg (Int32.not_lt.mpr h2)], rfl⟩⟩
  · refine g_iload_n (by decide +kernel : decode prog_12_method_69_code 5 = .ok (.iload_n 0, 1)) rfl ?_
    refine g_goto (tgt := 10) (by decide +kernel : decode prog_12_method_69_code 6 = .ok (.goto 4, 3)) (by decide) ?_
    exact g_iret hR (by decide +kernel : decode prog_12_method_69_code 10 = .ok (.ireturn, 1)) rfl ⟨_, rfl, ⟨by first | rw [if_pos h2] | rw [if_neg h2] | rw [if_pos (Int32.not_le.mp h2)] | rw [if_neg (Int32.not_lt.mpr h2)], rfl⟩⟩
set_option maxRecDepth 20000 in
theorem m_max (Λ : Lay) (σ : Store) (x y : Int32) : Ct Λ mt_Math_max 0 [.int x, .int y] σ (PF (if x < y then y else x) σ) := by
  refine Ct.ofF (by decide +kernel) (Nat.le_of_ble_eq_true rfl) (fun X hR => ?_)
  show G (Λ, mt_Math_max, 0) X σ [some (.int x), some (.int y)] [] 0
  refine g_iload_n (by decide +kernel : decode prog_12_method_65_code 0 = .ok (.iload_n 0, 1)) rfl ?_
  refine g_iload_n (by decide +kernel : decode prog_12_method_65_code 1 = .ok (.iload_n 1, 1)) rfl ?_
  refine g_icmp_lt (tgt := 9) (by decide +kernel : decode prog_12_method_65_code 2 = .ok (.if_icmp .lt 7, 3)) (by decide) (fun h2 => ?_) (fun h2 => ?_)
  · refine g_iload_n (by decide +kernel : decode prog_12_method_65_code 9 = .ok (.iload_n 1, 1)) rfl ?_
    exact g_iret hR (by decide +kernel : decode prog_12_method_65_code 10 = .ok (.ireturn, 1)) rfl ⟨_, rfl, ⟨by first | rw [if_pos h2] | rw [if_neg h2] | rw [if_pos (Int32.not_le.mp h2)] | rw [if_neg (Int32.not_lt.mpr h2)], rfl⟩⟩
  · refine g_iload_n (by decide +kernel : decode prog_12_method_65_code 5 = .ok (.iload_n 0, 1)) rfl ?_
    refine g_goto (tgt := 10) (by decide +kernel : decode prog_12_method_65_code 6 = .ok (.goto 4, 3)) (by decide) ?_
    exact g_iret hR (by decide +kernel : decode prog_12_method_65_code 10 = .ok (.ireturn, 1)) rfl ⟨_, rfl, ⟨by first | rw [if_pos h2] | rw [if_neg h2] | rw [if_pos (Int32.not_le.mp h2)] | rw [if_neg (Int32.not_lt.mpr h2)], rfl⟩⟩
def fmE (x : Int32) : Int32 := if 0 ≤ x ^^^ nI 12 then x - x / nI 12 * nI 12 else if x - x / nI 12 * nI 12 = 0 then x - x / nI 12 * nI 12 else x - x / nI 12 * nI 12 + nI 12
set_option maxRecDepth 20000 in
theorem m_fm12 (Λ : Lay) (σ : Store) (x : Int32) : Ct Λ mt_Math_floorMod 0 [.int x, .int (nI 12)] σ (PF (fmE x) σ) := by
  refine Ct.ofF (by decide +kernel) (Nat.le_of_ble_eq_true rfl) (fun X hR => ?_)
  show G (Λ, mt_Math_floorMod, 0) X σ [some (.int x), some (.int (nI 12)), none] [] 0
  refine g_iload_n (by decide +kernel : decode prog_12_method_50_code 0 = .ok (.iload_n 0, 1)) rfl ?_
  refine g_iload_n (by decide +kernel : decode prog_12_method_50_code 1 = .ok (.iload_n 1, 1)) rfl ?_
  refine g_irem (by decide +kernel : decode prog_12_method_50_code 2 = .ok (.irem, 1)) (by decide) ?_
  refine g_istore_n (L' := [some (.int x), some (.int (nI 12)), some (.int (x - x / (nI 12) * (nI 12)))]) (by decide +kernel : decode prog_12_method_50_code 3 = .ok (.istore_n 2, 1)) (Nat.le_of_ble_eq_true rfl) rfl ?_
  refine g_iload_n (by decide +kernel : decode prog_12_method_50_code 4 = .ok (.iload_n 0, 1)) rfl ?_
  refine g_iload_n (by decide +kernel : decode prog_12_method_50_code 5 = .ok (.iload_n 1, 1)) rfl ?_
  refine g_ixor (by decide +kernel : decode prog_12_method_50_code 6 = .ok (.ixor, 1)) ?_
  refine g_if_ge (tgt := 18) (by decide +kernel : decode prog_12_method_50_code 7 = .ok (.ifCond .ge 11, 3)) (by decide) (fun h7 => ?_) (fun h7 => ?_)
  · refine g_iload_n (by decide +kernel : decode prog_12_method_50_code 18 = .ok (.iload_n 2, 1)) rfl ?_
    exact g_iret hR (by decide +kernel : decode prog_12_method_50_code 19 = .ok (.ireturn, 1)) rfl ⟨_, rfl, ⟨by unfold fmE; simp only [h7, ↓reduceIte], rfl⟩⟩
  · refine g_iload_n (by decide +kernel : decode prog_12_method_50_code 10 = .ok (.iload_n 2, 1)) rfl ?_
    refine g_if_eq (tgt := 18) (by decide +kernel : decode prog_12_method_50_code 11 = .ok (.ifCond .eq 7, 3)) (by decide) (fun h11 => ?_) (fun h11 => ?_)
    · refine g_iload_n (by decide +kernel : decode prog_12_method_50_code 18 = .ok (.iload_n 2, 1)) rfl ?_
      exact g_iret hR (by decide +kernel : decode prog_12_method_50_code 19 = .ok (.ireturn, 1)) rfl ⟨_, rfl, ⟨by unfold fmE; simp only [h7, h11, ↓reduceIte], rfl⟩⟩
    · refine g_iload_n (by decide +kernel : decode prog_12_method_50_code 14 = .ok (.iload_n 2, 1)) rfl ?_
      refine g_iload_n (by decide +kernel : decode prog_12_method_50_code 15 = .ok (.iload_n 1, 1)) rfl ?_
      refine g_iadd (by decide +kernel : decode prog_12_method_50_code 16 = .ok (.iadd, 1)) ?_
      exact g_iret hR (by decide +kernel : decode prog_12_method_50_code 17 = .ok (.ireturn, 1)) rfl ⟨_, rfl, ⟨by unfold fmE; simp only [h7, h11, ↓reduceIte], rfl⟩⟩
theorem fmE_g : ∀ a : Fin 12, ∀ k : Fin 6, fmE (nI a.val + (match k.val with
    | 1 => nI 2
    | 2 => (-1 : Int32)
    | 3 => nI 3
    | 4 => -2
    | 5 => nI 0
    | _ => nI 1)) = (let v := nI a.val + (match k.val with
    | 1 => nI 2
    | 2 => (-1 : Int32)
    | 3 => nI 3
    | 4 => -2
    | 5 => nI 0
    | _ => nI 1) + nI 12
    v - v / nI 12 * nI 12) := by decide +kernel
theorem fmE_go {f : Row} (h : Inv f) {o : Nat} (ho : o < nn f) : fmE (f (19 + 6 * o + 3) + stridesF f o) = (let v := f (19 + 6 * o + 3) + stridesF f o + nI 12
    v - v / nI 12 * nI 12) := by
  obtain ⟨e0, l0⟩ := h.p ho 0
  obtain ⟨e3, l3⟩ := h.p ho 3
  have := fmE_g ⟨tn (f (19 + 6 * o + 3)), by show _ < 12; have : mx 3 = 11 := rfl; omega⟩ ⟨tn (f (19 + 6 * o + 0)), by show _ < 6; have : mx 0 = 5 := rfl; omega⟩
  dsimp only at this
  rw [← e3] at this
  exact this
/-- the park's cells hold what the row holds -/
def RP (σ : Store) (f : Row) : Prop := Inv f ∧ σ 0 8 = f 0 ∧ σ 0 9 = nI (msk f (nn f)) ∧ σ 0 10 = f 1 ∧ σ 0 11 = f 2 ∧ (∀ i, i < 4 → σ 1 i = f (3 + i)) ∧ (∀ p, p < 12 → σ 2 p = f (7 + p)) ∧ (∀ o, o < nn f → σ 3 o = f (19 + 6 * o + 0) ∧ σ 4 o = f (19 + 6 * o + 1) ∧ σ 5 o = f (19 + 6 * o + 2) ∧ σ 6 o = f (19 + 6 * o + 3) ∧ σ 7 o = f (19 + 6 * o + 5))
theorem RP.i {σ : Store} {f : Row} (h : RP σ f) : Inv f := h.1
theorem RP.n {σ : Store} {f : Row} (h : RP σ f) : σ 0 8 = nI (nn f) := h.2.1.trans h.1.n.1
theorem RP.n8 {σ : Store} {f : Row} (h : RP σ f) : nn f ≤ 8 := h.1.n.2
theorem RP.m {σ : Store} {f : Row} (h : RP σ f) : σ 0 9 = nI (msk f (nn f)) := h.2.2.1
theorem RP.y {σ : Store} {f : Row} (h : RP σ f) : σ 0 10 = f 1 := h.2.2.2.1
theorem RP.z {σ : Store} {f : Row} (h : RP σ f) : σ 0 11 = f 2 := h.2.2.2.2.1
theorem RP.l {σ : Store} {f : Row} (h : RP σ f) {i : Nat} (hi : i < 4) : σ 1 i = f (3 + i) := h.2.2.2.2.2.1 i hi
theorem RP.c {σ : Store} {f : Row} (h : RP σ f) {p : Nat} (hp : p < 12) : σ 2 p = f (7 + p) := h.2.2.2.2.2.2.1 p hp
theorem RP.p0 {σ : Store} {f : Row} (h : RP σ f) {o : Nat} (ho : o < nn f) : σ 3 o = f (19 + 6 * o + 0) := (h.2.2.2.2.2.2.2 o ho).1
theorem RP.p1 {σ : Store} {f : Row} (h : RP σ f) {o : Nat} (ho : o < nn f) : σ 4 o = f (19 + 6 * o + 1) := (h.2.2.2.2.2.2.2 o ho).2.1
theorem RP.p2 {σ : Store} {f : Row} (h : RP σ f) {o : Nat} (ho : o < nn f) : σ 5 o = f (19 + 6 * o + 2) := (h.2.2.2.2.2.2.2 o ho).2.2.1
theorem RP.p3 {σ : Store} {f : Row} (h : RP σ f) {o : Nat} (ho : o < nn f) : σ 6 o = f (19 + 6 * o + 3) := (h.2.2.2.2.2.2.2 o ho).2.2.2.1
theorem RP.p5 {σ : Store} {f : Row} (h : RP σ f) {o : Nat} (ho : o < nn f) : σ 7 o = f (19 + 6 * o + 5) := (h.2.2.2.2.2.2.2 o ho).2.2.2.2
theorem msk_up {f : Row} {j : Nat} {v : Int32} : ∀ k, (∀ i, i < k → 19 + 6 * i + 4 ≠ j) → msk (upd f j v) k = msk f k := by
  intro k
  induction k with
  | zero => intro _; rfl
  | succ k ih =>
    intro h
    unfold msk
    rw [ih (fun i hi => h i (by omega)), upd_n (h k (by omega))]
theorem s_up_self (σ : Store) {k j : Nat} {v : Int32} (a b : Nat) : s_up σ k j v a b = if a = k ∧ b = j then v else σ a b := by
  unfold s_up upd
  by_cases h1 : a = k
  · by_cases h2 : b = j <;> simp [h1, h2]
  · simp [h1]
theorem RP.u0 {σ : Store} {f : Row} (h : RP σ f) {o : Nat} {v : Int32} (hv : Rng v (mx 0)) : RP (s_up σ 3 o v) (upd f (19 + 6 * o + 0) v) := by
  have hn : nn (upd f (19 + 6 * o + 0) v) = nn f := nn_up (by omega)
  have e : ∀ a b, a ≠ 3 → s_up σ 3 o v a b = σ a b := fun a b h => by rw [s_up_n _ _ _ h]
  refine ⟨h.i.up (by decide) hv, ?_, ?_, ?_, ?_, fun i hi => ?_, fun p hp => ?_, fun q hq => ?_⟩
  · rw [e _ _ (by decide), upd_n (by omega)]; exact h.2.1
  · rw [e _ _ (by decide), hn, msk_up _ (fun i hi => by omega)]; exact h.m
  · rw [e _ _ (by decide), upd_n (by omega)]; exact h.y
  · rw [e _ _ (by decide), upd_n (by omega)]; exact h.z
  · rw [e _ _ (by decide), upd_n (by omega)]; exact h.l hi
  · rw [e _ _ (by decide), upd_n (by omega)]; exact h.c hp
  · rw [hn] at hq
    refine ⟨?_, ?_, ?_, ?_, ?_⟩
    · rw [s_up_k]
      by_cases hqo : q = o
      · subst hqo; rw [upd_s, upd_s]
      · rw [upd_n hqo, upd_n (by omega)]; exact h.p0 hq
    · rw [e _ _ (by decide), upd_n (by omega)]; exact h.p1 hq
    · rw [e _ _ (by decide), upd_n (by omega)]; exact h.p2 hq
    · rw [e _ _ (by decide), upd_n (by omega)]; exact h.p3 hq
    · rw [e _ _ (by decide), upd_n (by omega)]; exact h.p5 hq
theorem RP.u1 {σ : Store} {f : Row} (h : RP σ f) {o : Nat} {v : Int32} (hv : Rng v (mx 1)) : RP (s_up σ 4 o v) (upd f (19 + 6 * o + 1) v) := by
  have hn : nn (upd f (19 + 6 * o + 1) v) = nn f := nn_up (by omega)
  have e : ∀ a b, a ≠ 4 → s_up σ 4 o v a b = σ a b := fun a b h => by rw [s_up_n _ _ _ h]
  refine ⟨h.i.up (by decide) hv, ?_, ?_, ?_, ?_, fun i hi => ?_, fun p hp => ?_, fun q hq => ?_⟩
  · rw [e _ _ (by decide), upd_n (by omega)]; exact h.2.1
  · rw [e _ _ (by decide), hn, msk_up _ (fun i hi => by omega)]; exact h.m
  · rw [e _ _ (by decide), upd_n (by omega)]; exact h.y
  · rw [e _ _ (by decide), upd_n (by omega)]; exact h.z
  · rw [e _ _ (by decide), upd_n (by omega)]; exact h.l hi
  · rw [e _ _ (by decide), upd_n (by omega)]; exact h.c hp
  · rw [hn] at hq
    refine ⟨?_, ?_, ?_, ?_, ?_⟩
    · rw [e _ _ (by decide), upd_n (by omega)]; exact h.p0 hq
    · rw [s_up_k]
      by_cases hqo : q = o
      · subst hqo; rw [upd_s, upd_s]
      · rw [upd_n hqo, upd_n (by omega)]; exact h.p1 hq
    · rw [e _ _ (by decide), upd_n (by omega)]; exact h.p2 hq
    · rw [e _ _ (by decide), upd_n (by omega)]; exact h.p3 hq
    · rw [e _ _ (by decide), upd_n (by omega)]; exact h.p5 hq
theorem RP.u2 {σ : Store} {f : Row} (h : RP σ f) {o : Nat} {v : Int32} (hv : Rng v (mx 2)) : RP (s_up σ 5 o v) (upd f (19 + 6 * o + 2) v) := by
  have hn : nn (upd f (19 + 6 * o + 2) v) = nn f := nn_up (by omega)
  have e : ∀ a b, a ≠ 5 → s_up σ 5 o v a b = σ a b := fun a b h => by rw [s_up_n _ _ _ h]
  refine ⟨h.i.up (by decide) hv, ?_, ?_, ?_, ?_, fun i hi => ?_, fun p hp => ?_, fun q hq => ?_⟩
  · rw [e _ _ (by decide), upd_n (by omega)]; exact h.2.1
  · rw [e _ _ (by decide), hn, msk_up _ (fun i hi => by omega)]; exact h.m
  · rw [e _ _ (by decide), upd_n (by omega)]; exact h.y
  · rw [e _ _ (by decide), upd_n (by omega)]; exact h.z
  · rw [e _ _ (by decide), upd_n (by omega)]; exact h.l hi
  · rw [e _ _ (by decide), upd_n (by omega)]; exact h.c hp
  · rw [hn] at hq
    refine ⟨?_, ?_, ?_, ?_, ?_⟩
    · rw [e _ _ (by decide), upd_n (by omega)]; exact h.p0 hq
    · rw [e _ _ (by decide), upd_n (by omega)]; exact h.p1 hq
    · rw [s_up_k]
      by_cases hqo : q = o
      · subst hqo; rw [upd_s, upd_s]
      · rw [upd_n hqo, upd_n (by omega)]; exact h.p2 hq
    · rw [e _ _ (by decide), upd_n (by omega)]; exact h.p3 hq
    · rw [e _ _ (by decide), upd_n (by omega)]; exact h.p5 hq
theorem RP.u3 {σ : Store} {f : Row} (h : RP σ f) {o : Nat} {v : Int32} (hv : Rng v (mx 3)) : RP (s_up σ 6 o v) (upd f (19 + 6 * o + 3) v) := by
  have hn : nn (upd f (19 + 6 * o + 3) v) = nn f := nn_up (by omega)
  have e : ∀ a b, a ≠ 6 → s_up σ 6 o v a b = σ a b := fun a b h => by rw [s_up_n _ _ _ h]
  refine ⟨h.i.up (by decide) hv, ?_, ?_, ?_, ?_, fun i hi => ?_, fun p hp => ?_, fun q hq => ?_⟩
  · rw [e _ _ (by decide), upd_n (by omega)]; exact h.2.1
  · rw [e _ _ (by decide), hn, msk_up _ (fun i hi => by omega)]; exact h.m
  · rw [e _ _ (by decide), upd_n (by omega)]; exact h.y
  · rw [e _ _ (by decide), upd_n (by omega)]; exact h.z
  · rw [e _ _ (by decide), upd_n (by omega)]; exact h.l hi
  · rw [e _ _ (by decide), upd_n (by omega)]; exact h.c hp
  · rw [hn] at hq
    refine ⟨?_, ?_, ?_, ?_, ?_⟩
    · rw [e _ _ (by decide), upd_n (by omega)]; exact h.p0 hq
    · rw [e _ _ (by decide), upd_n (by omega)]; exact h.p1 hq
    · rw [e _ _ (by decide), upd_n (by omega)]; exact h.p2 hq
    · rw [s_up_k]
      by_cases hqo : q = o
      · subst hqo; rw [upd_s, upd_s]
      · rw [upd_n hqo, upd_n (by omega)]; exact h.p3 hq
    · rw [e _ _ (by decide), upd_n (by omega)]; exact h.p5 hq
theorem RP.u5 {σ : Store} {f : Row} (h : RP σ f) {o : Nat} {v : Int32} (hv : Rng v (mx 5)) : RP (s_up σ 7 o v) (upd f (19 + 6 * o + 5) v) := by
  have hn : nn (upd f (19 + 6 * o + 5) v) = nn f := nn_up (by omega)
  have e : ∀ a b, a ≠ 7 → s_up σ 7 o v a b = σ a b := fun a b h => by rw [s_up_n _ _ _ h]
  refine ⟨h.i.up (by decide) hv, ?_, ?_, ?_, ?_, fun i hi => ?_, fun p hp => ?_, fun q hq => ?_⟩
  · rw [e _ _ (by decide), upd_n (by omega)]; exact h.2.1
  · rw [e _ _ (by decide), hn, msk_up _ (fun i hi => by omega)]; exact h.m
  · rw [e _ _ (by decide), upd_n (by omega)]; exact h.y
  · rw [e _ _ (by decide), upd_n (by omega)]; exact h.z
  · rw [e _ _ (by decide), upd_n (by omega)]; exact h.l hi
  · rw [e _ _ (by decide), upd_n (by omega)]; exact h.c hp
  · rw [hn] at hq
    refine ⟨?_, ?_, ?_, ?_, ?_⟩
    · rw [e _ _ (by decide), upd_n (by omega)]; exact h.p0 hq
    · rw [e _ _ (by decide), upd_n (by omega)]; exact h.p1 hq
    · rw [e _ _ (by decide), upd_n (by omega)]; exact h.p2 hq
    · rw [e _ _ (by decide), upd_n (by omega)]; exact h.p3 hq
    · rw [s_up_k]
      by_cases hqo : q = o
      · subst hqo; rw [upd_s, upd_s]
      · rw [upd_n hqo, upd_n (by omega)]; exact h.p5 hq
theorem RP.ul {σ : Store} {f : Row} (h : RP σ f) {i : Nat} {v : Int32} (hi : i < 4) (hv : Rng v (lm i)) : RP (s_up σ 1 i v) (upd f (3 + i) v) := by
  have hn : nn (upd f (3 + i) v) = nn f := nn_up (by omega)
  have e : ∀ a b, a ≠ 1 → s_up σ 1 i v a b = σ a b := fun a b h => by rw [s_up_n _ _ _ h]
  refine ⟨h.i.law hi hv, ?_, ?_, ?_, ?_, fun j hj => ?_, fun p hp => ?_, fun q hq => ?_⟩
  · rw [e _ _ (by decide), upd_n (by omega)]; exact h.2.1
  · rw [e _ _ (by decide), hn, msk_up _ (fun i hi => by omega)]; exact h.m
  · rw [e _ _ (by decide), upd_n (by omega)]; exact h.y
  · rw [e _ _ (by decide), upd_n (by omega)]; exact h.z
  · rw [s_up_k]
    by_cases hji : j = i
    · subst hji; rw [upd_s, upd_s]
    · rw [upd_n hji, upd_n (by omega)]; exact h.l hj
  · rw [e _ _ (by decide), upd_n (by omega)]; exact h.c hp
  · rw [hn] at hq
    refine ⟨?_, ?_, ?_, ?_, ?_⟩
    · rw [e _ _ (by decide), upd_n (by omega)]; exact h.p0 hq
    · rw [e _ _ (by decide), upd_n (by omega)]; exact h.p1 hq
    · rw [e _ _ (by decide), upd_n (by omega)]; exact h.p2 hq
    · rw [e _ _ (by decide), upd_n (by omega)]; exact h.p3 hq
    · rw [e _ _ (by decide), upd_n (by omega)]; exact h.p5 hq
theorem RP.uc {σ : Store} {f : Row} (h : RP σ f) {p : Nat} {v : Int32} (hi : p < 12) (hv : Rng v 9) : RP (s_up σ 2 p v) (upd f (7 + p) v) := by
  have hn : nn (upd f (7 + p) v) = nn f := nn_up (by omega)
  have e : ∀ a b, a ≠ 2 → s_up σ 2 p v a b = σ a b := fun a b h => by rw [s_up_n _ _ _ h]
  refine ⟨h.i.cov hi hv, ?_, ?_, ?_, ?_, fun j hj => ?_, fun j hj => ?_, fun q hq => ?_⟩
  · rw [e _ _ (by decide), upd_n (by omega)]; exact h.2.1
  · rw [e _ _ (by decide), hn, msk_up _ (fun i hi => by omega)]; exact h.m
  · rw [e _ _ (by decide), upd_n (by omega)]; exact h.y
  · rw [e _ _ (by decide), upd_n (by omega)]; exact h.z
  · rw [e _ _ (by decide), upd_n (by omega)]; exact h.l hj
  · rw [s_up_k]
    by_cases hji : j = p
    · subst hji; rw [upd_s, upd_s]
    · rw [upd_n hji, upd_n (by omega)]; exact h.c hj
  · rw [hn] at hq
    refine ⟨?_, ?_, ?_, ?_, ?_⟩
    · rw [e _ _ (by decide), upd_n (by omega)]; exact h.p0 hq
    · rw [e _ _ (by decide), upd_n (by omega)]; exact h.p1 hq
    · rw [e _ _ (by decide), upd_n (by omega)]; exact h.p2 hq
    · rw [e _ _ (by decide), upd_n (by omega)]; exact h.p3 hq
    · rw [e _ _ (by decide), upd_n (by omega)]; exact h.p5 hq
theorem RP.uy {σ : Store} {f : Row} (h : RP σ f) (v : Int32) : RP (s_up σ 0 10 v) (upd f 1 v) := by
  have hn : nn (upd f 1 v) = nn f := nn_up (by omega)
  have e : ∀ a b, a ≠ 0 → s_up σ 0 10 v a b = σ a b := fun a b h => by rw [s_up_n _ _ _ h]
  refine ⟨h.i.yr v, ?_, ?_, ?_, ?_, fun j hj => ?_, fun j hj => ?_, fun q hq => ?_⟩
  · rw [s_up_k, upd_n (by decide), upd_n (by omega)]; exact h.2.1
  · rw [s_up_k, upd_n (by decide), hn, msk_up _ (fun i hi => by omega)]; exact h.m
  · rw [s_up_k, upd_s, upd_s]
  · rw [s_up_k, upd_n (by decide), upd_n (by omega)]; exact h.z
  · rw [e _ _ (by decide), upd_n (by omega)]; exact h.l hj
  · rw [e _ _ (by decide), upd_n (by omega)]; exact h.c hj
  · rw [hn] at hq
    refine ⟨?_, ?_, ?_, ?_, ?_⟩
    · rw [e _ _ (by decide), upd_n (by omega)]; exact h.p0 hq
    · rw [e _ _ (by decide), upd_n (by omega)]; exact h.p1 hq
    · rw [e _ _ (by decide), upd_n (by omega)]; exact h.p2 hq
    · rw [e _ _ (by decide), upd_n (by omega)]; exact h.p3 hq
    · rw [e _ _ (by decide), upd_n (by omega)]; exact h.p5 hq
theorem RP.uz {σ : Store} {f : Row} (h : RP σ f) (v : Int32) : RP (s_up σ 0 11 v) (upd f 2 v) := by
  have hn : nn (upd f 2 v) = nn f := nn_up (by omega)
  have e : ∀ a b, a ≠ 0 → s_up σ 0 11 v a b = σ a b := fun a b h => by rw [s_up_n _ _ _ h]
  refine ⟨h.i.z v, ?_, ?_, ?_, ?_, fun j hj => ?_, fun j hj => ?_, fun q hq => ?_⟩
  · rw [s_up_k, upd_n (by decide), upd_n (by omega)]; exact h.2.1
  · rw [s_up_k, upd_n (by decide), hn, msk_up _ (fun i hi => by omega)]; exact h.m
  · rw [s_up_k, upd_n (by decide), upd_n (by omega)]; exact h.y
  · rw [s_up_k, upd_s, upd_s]
  · rw [e _ _ (by decide), upd_n (by omega)]; exact h.l hj
  · rw [e _ _ (by decide), upd_n (by omega)]; exact h.c hj
  · rw [hn] at hq
    refine ⟨?_, ?_, ?_, ?_, ?_⟩
    · rw [e _ _ (by decide), upd_n (by omega)]; exact h.p0 hq
    · rw [e _ _ (by decide), upd_n (by omega)]; exact h.p1 hq
    · rw [e _ _ (by decide), upd_n (by omega)]; exact h.p2 hq
    · rw [e _ _ (by decide), upd_n (by omega)]; exact h.p3 hq
    · rw [e _ _ (by decide), upd_n (by omega)]; exact h.p5 hq
theorem RP.u4 {σ : Store} {f : Row} (h : RP σ f) {o k : Nat} (hk : k ≤ 1) {M : Int32} (hM : M = nI (msk (upd f (19 + 6 * o + 4) (nI k)) (nn f))) : RP (s_up σ 0 9 M) (upd f (19 + 6 * o + 4) (nI k)) := by
  have hn : nn (upd f (19 + 6 * o + 4) (nI k)) = nn f := nn_up (by omega)
  have e : ∀ a b, a ≠ 0 → s_up σ 0 9 M a b = σ a b := fun a b h => by rw [s_up_n _ _ _ h]
  refine ⟨h.i.up (by decide) (Rng.of hk), ?_, ?_, ?_, ?_, fun j hj => ?_, fun j hj => ?_, fun q hq => ?_⟩
  · rw [s_up_k, upd_n (by decide), upd_n (by omega)]; exact h.2.1
  · rw [s_up_k, upd_s, hn]; exact hM
  · rw [s_up_k, upd_n (by decide), upd_n (by omega)]; exact h.y
  · rw [s_up_k, upd_n (by decide), upd_n (by omega)]; exact h.z
  · rw [e _ _ (by decide), upd_n (by omega)]; exact h.l hj
  · rw [e _ _ (by decide), upd_n (by omega)]; exact h.c hj
  · rw [hn] at hq
    refine ⟨?_, ?_, ?_, ?_, ?_⟩
    · rw [e _ _ (by decide), upd_n (by omega)]; exact h.p0 hq
    · rw [e _ _ (by decide), upd_n (by omega)]; exact h.p1 hq
    · rw [e _ _ (by decide), upd_n (by omega)]; exact h.p2 hq
    · rw [e _ _ (by decide), upd_n (by omega)]; exact h.p3 hq
    · rw [e _ _ (by decide), upd_n (by omega)]; exact h.p5 hq
/-- cells that agree below 8 -/
theorem RP.cg {σ τ : Store} {f : Row} (h : RP σ f) (e : ∀ k, k < 8 → τ k = σ k) : RP τ f := by
  refine ⟨h.i, ?_, ?_, ?_, ?_, fun j hj => ?_, fun j hj => ?_, fun q hq => ?_⟩
  · rw [e 0 (by decide)]; exact h.2.1
  · rw [e 0 (by decide)]; exact h.m
  · rw [e 0 (by decide)]; exact h.y
  · rw [e 0 (by decide)]; exact h.z
  · rw [e 1 (by decide)]; exact h.l hj
  · rw [e 2 (by decide)]; exact h.c hj
  · rw [e 3 (by decide), e 4 (by decide), e 5 (by decide), e 6 (by decide), e 7 (by decide)]; exact h.2.2.2.2.2.2.2 q hq
theorem RP.u8 {σ : Store} {f : Row} (h : RP σ f) (o : Nat) (v : Int32) : RP (s_up σ 8 o v) f := h.cg (fun k hk => s_up_n _ _ _ (by omega))
/-- one more or one fewer among those hidden -/
theorem msk_on {f : Row} (h : Inv f) {o : Nat} (ho : o < nn f) : nI (msk f (nn f)) ||| nI 1 <<< (nI o &&& 31) = nI (msk (upd f (19 + 6 * o + 4) (nI 1)) (nn f)) := by
  have h8 := h.n.2
  rw [nI_1shl (by omega), nI_or]
  congr 1
  have hu := h.up (o := o) (w := 4) (v := nI 1) (by decide) (Rng.of (by decide))
  have hn : nn (upd f (19 + 6 * o + 4) (nI 1)) = nn f := nn_up (by omega)
  apply Nat.eq_of_testBit_eq
  intro i
  rw [Nat.testBit_or, msk_bit _ (fun q hq => (h.p (o := q) hq 4).2), msk_bit _ (fun q hq => (hu.p (o := q) (by omega) 4).2), Nat.one_mul, Nat.testBit_two_pow]
  by_cases e : o = i
  · subst e; rw [upd_s]; simp [ho]; rfl
  · rw [upd_n (by omega)]; simp [e]
theorem nI_not : ∀ m : Fin 256, ∀ o : Fin 8, nI m.val &&& (nI 1 <<< (nI o.val &&& 31) ^^^ (-1)) = nI (m.val - (if m.val.testBit o.val then 2 ^ o.val else 0)) := by decide +kernel
theorem tb_sub : ∀ m : Fin 256, ∀ o : Fin 8, ∀ i : Fin 8, (m.val - (if m.val.testBit o.val then 2 ^ o.val else 0)).testBit i.val = (m.val.testBit i.val && !decide (o.val = i.val)) := by decide +kernel
theorem msk_off {f : Row} (h : Inv f) {o : Nat} (ho : o < nn f) : nI (msk f (nn f)) &&& (nI 1 <<< (nI o &&& 31) ^^^ (-1)) = nI (msk (upd f (19 + 6 * o + 4) (nI 0)) (nn f)) := by
  have h8 := h.n.2
  have hm := inv_m256 h
  have hu := h.up (o := o) (w := 4) (v := nI 0) (by decide) (Rng.of (by decide))
  have hn : nn (upd f (19 + 6 * o + 4) (nI 0)) = nn f := nn_up (by omega)
  have hm2 := inv_m256 hu
  rw [hn] at hm2
  refine (nI_not ⟨msk f (nn f), hm⟩ ⟨o, by omega⟩).trans ?_
  congr 1
  apply Nat.eq_of_testBit_eq
  intro i
  by_cases hi : i < 8
  · refine (tb_sub ⟨msk f (nn f), hm⟩ ⟨o, by omega⟩ ⟨i, hi⟩).trans ?_
    show ((msk f (nn f)).testBit i && !decide (o = i)) = _
    rw [msk_bit _ (fun q hq => (h.p (o := q) hq 4).2), msk_bit _ (fun q hq => (hu.p (o := q) (by omega) 4).2)]
    by_cases e : o = i
    · subst e; rw [upd_s]; simp; intro _; decide
    · rw [upd_n (by omega)]; simp [e]
  · have hp : 2 ^ 8 ≤ 2 ^ i := Nat.pow_le_pow_right (by decide) (by omega)
    rw [Nat.testBit_lt_two_pow (by show msk f (nn f) - _ < 2 ^ i; omega), Nat.testBit_lt_two_pow (by omega)]
/-- hidden: the bit -/
theorem msk_tb {f : Row} (h : Inv f) {o : Nat} (ho : o < nn f) : (msk f (nn f)).testBit o = true ↔ f (19 + 6 * o + 4) = nI 1 := by
  have hp := h.p ho 4
  rw [msk_bit _ (fun q hq => (h.p (o := q) hq 4).2)]
  simp only [ho, decide_true, Bool.true_and, decide_eq_true_eq]
  constructor
  · intro e; rw [hp.1, e]
  · intro e; rw [e]; rfl
