/-! THE LAW: its beginning, the world -/
theorem roV_le : ∀ j : Fin 4, (roV j.val).length ≤ 24 := by decide
theorem v_st (j : Nat) (hj : j < 4) : Cond.laysStatic (roC j).1 (roC j).2 "[I" ∈ lw_tbl ∧ Cond.initialized (roC j).1 ∈ lw_tbl := by
  rcases (show j = 0 ∨ j = 1 ∨ j = 2 ∨ j = 3 by omega) with rfl | rfl | rfl | rfl
  · exact v_st0
  · exact v_st1
  · exact v_st2
  · exact v_st3
theorem ro_S {s : State} {b : Nat} (hs : ∀ w ∈ flC, w.before #[Value.ref b] s = true) (hA : ∀ a : Nat, a < s.heap.size → ¬ (fun q : Nat => s.heap.size ≤ q) a) : ∃ adK adV : Nat → Nat, vk_S 16 strL strB adK adV (fun q : Nat => s.heap.size ≤ q) s s.heap ∧ ∀ i : Nat, i < 16 → (tmS i).eval #[Value.ref b] s none [] s = some (.ref (adK i)) :=
  vk_Sof (args := #[Value.ref b]) (s := s) (N := 16) (tm := tmS) (len := strL) (byt := strB) (A := fun q : Nat => s.heap.size ≤ q) (fun i hi => Nat.lt_of_le_of_lt (str_le ⟨i, hi⟩) (by decide)) (fun i hi => hs _ (f_ex ⟨i, hi⟩)) (fun i hi => hs _ (f_co ⟨i, hi⟩)) (fun i hi => hs _ (f_ar ⟨i, hi⟩)) (fun i hi => hs _ (f_le ⟨i, hi⟩)) (fun i hi j hj => hs _ (f_el ⟨i, hi⟩ ⟨j, Nat.lt_of_lt_of_le hj (str_le ⟨i, hi⟩)⟩ hj)) (fun i j hi hj hij => (f_ne i j hi hj hij).imp (hs _) (hs _)) hA
theorem ro_T {s : State} {b : Nat} (hts : ∀ w ∈ lw_tbl, w.before #[Value.ref b] s = true) (hs : ∀ w ∈ flC, w.before #[Value.ref b] s = true) (hA : ∀ a : Nat, a < s.heap.size → ¬ (fun q : Nat => s.heap.size ≤ q) a) (j : Nat) (hj : j < 4) : ∃ t : Nat, va_Z (roC j).1 (roC j).2 "[I" (.ref t) (fun q : Nat => s.heap.size ≤ q) s s.heap ∧ va_T .int t (roV j).length (fun i => .int ((roV j).getD i 0)) (fun q : Nat => s.heap.size ≤ q) s s.heap := by
  have hlen : (roV j).length ≤ 24 := roV_le ⟨j, hj⟩
  have hz := v_st j hj
  have ha := f_sa ⟨j, hj⟩
  have hb := f_sl ⟨j, hj⟩
  have hc := fun (i : Nat) (hi : i < (roV j).length) => f_se ⟨j, hj⟩ ⟨i, Nat.lt_of_lt_of_le hi hlen⟩ hi
  obtain ⟨t, h1, h2⟩ := va_Tof (args := #[Value.ref b]) (s := s) (tm := tmR j) (ty := .int) (N := (roV j).length) (f := fun i => .int ((roV j).getD i 0)) (A := fun q : Nat => s.heap.size ≤ q) (Nat.lt_of_le_of_lt hlen (by decide)) (hs _ ha) (va_eqt (hs _ hb)) (fun i hi => va_eqt (hs _ (hc i hi))) hA
  exact ⟨t, va_Zof (hts _ hz.1) (hts _ hz.2) h1 hA, h2⟩
set_option maxHeartbeats 2000000 in
/-- what nobody writes, as it stands at the law's entry -/
theorem ro_start {s : State} {b : Nat} (hts : ∀ w ∈ lw_tbl, w.before #[Value.ref b] s = true) (hs : ∀ w ∈ flC, w.before #[Value.ref b] s = true) : ∃ ad : Nat → Nat, ad 1300 = b ∧ RO ad (fun q : Nat => s.heap.size ≤ q) s ∧ NL s := by
  have hA : ∀ a : Nat, a < s.heap.size → ¬ (fun q : Nat => s.heap.size ≤ q) a := fun a h => Nat.not_le.mpr h
  obtain ⟨adK, adV, hS, hE⟩ := ro_S hs hA
  have hT := ro_T hts hs hA
  obtain ⟨t0, h0⟩ := hT 0 (by decide)
  obtain ⟨t1, h1⟩ := hT 1 (by decide)
  obtain ⟨t2, h2⟩ := hT 2 (by decide)
  obtain ⟨t3, h3⟩ := hT 3 (by decide)
  have hC : va_Z "java/lang/String" "COMPACT_STRINGS" "Z" (.int 1) (fun q : Nat => s.heap.size ≤ q) s s.heap := va_Zof (hts _ v_cs.1) (hts _ v_cs.2) (va_eqt (hs _ f_cs)) hA
  have hQ := va_Zqof (hts _ v_sf.1) (hts _ v_sf.2) (hs _ f_sf) hA
  obtain ⟨tf, hF⟩ : ∃ tf : Nat, va_Z "jdk/internal/util/Preconditions" "SIOOBE_FORMATTER" "Ljava/util/function/BiFunction;" .null (fun q : Nat => s.heap.size ≤ q) s s.heap ∨ va_Z "jdk/internal/util/Preconditions" "SIOOBE_FORMATTER" "Ljava/util/function/BiFunction;" (.ref tf) (fun q : Nat => s.heap.size ≤ q) s s.heap := by
    rcases hQ with h | ⟨t, h⟩
    · exact ⟨0, Or.inl h⟩
    · exact ⟨t, Or.inr h⟩
  refine ⟨ad0 (fun j => [t0, t1, t2, t3].getD j 0) adK adV tf b, rfl, ⟨fun j hj => ?_, ⟨fun i hi => ?_, fun i j hi hj e => ?_⟩, fun i hi => ?_, hC, hF, va_Nw.of rfl (hts _ v_fna), va_Nw.of rfl (hts _ v_fnb)⟩, ⟨va_Nw.of rfl (hts _ v_mn11), va_Nw.of rfl (hts _ v_mn29), va_Nw.of rfl (hts _ v_mn36), va_Nw.of rfl (hts _ v_mn43), va_Nw.of rfl (hts _ v_mn50), va_Nw.of rfl (hts _ v_mn57)⟩⟩
  · rw [ad0_s hj]
    rcases (show j = 0 ∨ j = 1 ∨ j = 2 ∨ j = 3 by omega) with rfl | rfl | rfl | rfl
    · exact h0
    · exact h1
    · exact h2
    · exact h3
  · have := hS.1 i hi
    show va_O _ (ad0 _ _ _ _ _ (1000 + i)) _ s s.heap ∧ va_OF _ _ _ _ (ad0 _ _ _ _ _ (1000 + i)) _ s s.heap ∧ va_OF _ _ _ (.ref (ad0 _ _ _ _ _ (1100 + i))) (ad0 _ _ _ _ _ (1000 + i)) _ s s.heap ∧ va_T _ (ad0 _ _ _ _ _ (1100 + i)) _ _ _ s s.heap
    rw [ad0_k hi, ad0_v hi]
    exact this
  · have e1 : ad0 (fun j => [t0, t1, t2, t3].getD j 0) adK adV tf b (1000 + i) = ad0 (fun j => [t0, t1, t2, t3].getD j 0) adK adV tf b (1000 + j) := e
    rw [ad0_k hi, ad0_k hj] at e1
    exact hS.2 i j hi hj e1
  · rw [ad0_k hi]
    exact vk_R.of (hts _ (v_sr i hi)) (hE i hi)
theorem tb_in {w : Cond} (h : w ∈ tb) : w ∈ lw_tbl := (List.mem_filter.mp h).1
set_option maxRecDepth 20000 in
theorem vi_LS : Cond.instantiable R_LS 9 ∈ tb := tb_mem 86 rfl rfl
set_option maxRecDepth 20000 in
theorem vi_Pk : Cond.instantiable R_Pk 12 ∈ tb := tb_mem 100 rfl rfl
set_option maxRecDepth 20000 in
theorem vi_Tr : Cond.instantiable R_Tr 2 ∈ tb := tb_mem 94 rfl rfl
set_option maxRecDepth 20000 in
theorem vi_Tp : Cond.instantiable R_Tp 6 ∈ tb := tb_mem 186 rfl rfl
set_option maxRecDepth 20000 in
theorem vi_Rw : Cond.instantiable R_Rw 2 ∈ tb := tb_mem 213 rfl rfl
set_option maxRecDepth 20000 in
theorem vi_Sh : Cond.instantiable R_Sh 3 ∈ tb := tb_mem 228 rfl rfl
set_option maxRecDepth 20000 in
theorem vi_Sv : Cond.instantiable R_Sv 3 ∈ tb := tb_mem 247 rfl rfl
set_option maxRecDepth 20000 in
theorem vi_Ac : Cond.instantiable R_Ac 6 ∈ tb := tb_mem 266 rfl rfl
set_option maxRecDepth 20000 in
theorem vi_Md : Cond.instantiable R_Md 27 ∈ tb := tb_mem 904 rfl rfl
theorem arr_k {s : State} {args : Array Value} {ty : FieldType} (h : (Cond.arrayClass ty).before args s = true) (ho : ∀ C, ty ≠ .object C) : ∃ cA, ArrOfT s cA ty ∧ va_RA s cA ty := by
  obtain ⟨cA, kA, comp, h1, h2, h3⟩ := Cond.arrayClass_spec h
  refine ⟨cA, fun n z => ⟨fun k h => (by cases h), kA, h2, comp, h3⟩, ?_⟩
  cases ty with
  | object C => exact absurd rfl (ho C)
  | _ => exact h1
theorem vk_start {s : State} {args : Array Value} (htb : ∀ w ∈ tb, w.before args s = true) : ∃ (dC : Nat → ClassId) (dI : Nat → Nat → Nat) (cI cB : ClassId), va_K (dC, dI) classes (tyl cI cB) s := by
  obtain ⟨c0, i0, k0⟩ := u_known (C := R_LS) (T := F_LS) (N := 9) (n := 9) htb i_LS (htb _ vi_LS)
  obtain ⟨c1, i1, k1⟩ := u_known (C := R_Pk) (T := F_Pk) (N := 12) (n := 12) htb i_Pk (htb _ vi_Pk)
  obtain ⟨c2, i2, k2⟩ := u_known (C := R_Tr) (T := F_Tr) (N := 2) (n := 2) htb i_Tr (htb _ vi_Tr)
  obtain ⟨c3, i3, k3⟩ := u_known (C := R_Tp) (T := F_Tp) (N := 6) (n := 6) htb i_Tp (htb _ vi_Tp)
  obtain ⟨c4, i4, k4⟩ := u_known (C := R_Rw) (T := F_Rw) (N := 2) (n := 2) htb i_Rw (htb _ vi_Rw)
  obtain ⟨c5, i5, k5⟩ := u_known (C := R_Sh) (T := F_Sh) (N := 3) (n := 3) htb i_Sh (htb _ vi_Sh)
  obtain ⟨c6, i6, k6⟩ := u_known (C := R_Sv) (T := F_Sv) (N := 3) (n := 3) htb i_Sv (htb _ vi_Sv)
  obtain ⟨c7, i7, k7⟩ := u_known (C := R_Ac) (T := F_Ac) (N := 6) (n := 6) htb i_Ac (htb _ vi_Ac)
  obtain ⟨c8, i8, k8⟩ := u_known (C := R_Md) (T := F_Md) (N := 27) (n := 27) htb i_Md (htb _ vi_Md)
  obtain ⟨cI, hI1, hI2⟩ := arr_k (htb _ arr_I) (fun C h => by cases h)
  obtain ⟨cB, hB1, hB2⟩ := arr_k (htb _ arr_B) (fun C h => by cases h)
  refine ⟨fun k => [c0, c1, c2, c3, c4, c5, c6, c7, c8].getD k c0, fun k => [i0, i1, i2, i3, i4, i5, i6, i7, i8].getD k i0, cI, cB, fun k q hq => ?_, fun k q hq => ?_⟩
  · match k, hq with
    | 0, hq => cases hq; exact k0
    | 1, hq => cases hq; exact k1
    | 2, hq => cases hq; exact k2
    | 3, hq => cases hq; exact k3
    | 4, hq => cases hq; exact k4
    | 5, hq => cases hq; exact k5
    | 6, hq => cases hq; exact k6
    | 7, hq => cases hq; exact k7
    | 8, hq => cases hq; exact k8
    | k + 9, hq => simp [classes] at hq
  · match k, hq with
    | 0, hq => cases hq; exact ⟨hI1, hI2⟩
    | 1, hq => cases hq; exact ⟨hB1, hB2⟩
    | k + 2, hq => simp [tyl] at hq
theorem w_to {Γ : WC} {Λ : Lay} {p : Program} {l : Launch} {e : Env} {R : Room} {s : State} {m : MethodId} {args : Array Value} {below : List Frame} {meth : Method} {c : Code} {Q : State → Prop} {dC : Nat → ClassId} {dI : Nat → Nat → Nat} {cI cB : ClassId} {ad ad' : Nat → Nat} {A : Nat → Prop} {ws : va_W} {σ : Store} {k n pc : Nat} {L L' : List (Option Value)} (hws : ws = wr cI cB ad' σ 0 Λ) (had : ∀ z, 900 ≤ z → ad' z = ad z) (hL : ∀ (i : Nat) (v : Value), L'[i]? = some (some v) → L[i]? = some (some (cv ad' v))) (hk : k ≤ Γ.2.2.1) (hn : n ≤ Γ.2.2.2) (kk : G (Λ, Γ.1, Γ.2.1) ((p, l, e, R), (s, m, args, below), (meth, c, Q), (dC, dI, cI, cB), (ad', A, k, n)) σ L' [] pc) : GW Γ ((p, l, e, R), (s, m, args, below), (meth, c, Q), (dC, dI, cI, cB), (ad, A)) ws k n L [] pc := by
  intro ok H locs ls hP hD hS hl
  obtain ⟨hx, hb, hm, hown, hts, hK, hA, hRO, hfr, hlo, hce, hsl, -⟩ := ok
  subst hws
  obtain ⟨hAp, hAk⟩ := wr_Ap hD
  refine kk ⟨hx, hb, hm, hown, hts, hK, hAp, hAk, hRO.1.re had, hfr, hlo, by omega, by omega⟩ H locs ls hP hS ⟨hl.1, hl.2.1, fun i v hv => ?_⟩
  have := hl.2.2 i _ (hL i v hv)
  rw [cv_id] at this
  exact this
theorem w_astore {Γ : WC} {X : WX} {ws : va_W} {k n : Nat} {L L' : List (Option Value)} {st : List Value} {pc : Nat} {i : Fin 4} {v : Nat} (hd : decode Γ.1.2.1 pc = .ok (.astore_n i, 1)) (hn : (i : Nat) < Γ.1.2.2.1) (hL : st1 L (i : Nat) (.ref v) = L') (kk : GW Γ X ws k n L' st (pc + 1)) : GW Γ X ws k n L (.ref v :: st) pc := by
  obtain ⟨⟨p, l, e, R⟩, ⟨s, m, args, below⟩, ⟨meth, c, Q⟩, ⟨dC, dI, cI, cB⟩, ⟨ad, A⟩⟩ := X
  intro ok H locs ls hP hD hS hl
  have h1 := fun ls hl => kk ok H locs ls hP hD hS hl
  obtain ⟨hx, hb, -⟩ := ok
  exact lv_astore_n hx hb hd rfl (lh_pairs hl) hn rfl (fun ls' hl' => h1 ls' (lh_st1 (v := .ref v) hl' hL))
theorem w_istore {Γ : WC} {X : WX} {ws : va_W} {k n : Nat} {L L' : List (Option Value)} {st : List Value} {pc : Nat} {i : Fin 4} {v : Int32} (hd : decode Γ.1.2.1 pc = .ok (.istore_n i, 1)) (hn : (i : Nat) < Γ.1.2.2.1) (hL : st1 L (i : Nat) (.int v) = L') (kk : GW Γ X ws k n L' st (pc + 1)) : GW Γ X ws k n L (.int v :: st) pc := by
  obtain ⟨⟨p, l, e, R⟩, ⟨s, m, args, below⟩, ⟨meth, c, Q⟩, ⟨dC, dI, cI, cB⟩, ⟨ad, A⟩⟩ := X
  intro ok H locs ls hP hD hS hl
  have h1 := fun ls hl => kk ok H locs ls hP hD hS hl
  obtain ⟨hx, hb, -⟩ := ok
  exact lv_istore_n hx hb hd rfl (lh_pairs hl) hn rfl (fun ls' hl' => h1 ls' (lh_st1 (v := .int v) hl' hL))
/-- a new object of each: they stand in the relation -/
theorem RX.new {σ τ : Store} (h : CI σ) (m : MI τ) : RX σ τ (τ 1) := by
  obtain ⟨c1, c2, c3, ⟨c4, c5⟩, c6, c7, c8⟩ := h
  obtain ⟨⟨m1, m2, m3, m4⟩, m5, m6, m7⟩ := m
  rw [m5]
  refine ⟨c1, Or.inl ⟨c2, m1⟩, ⟨0, c3, ⟨m2, by decide, fun i hi => absurd hi (Nat.not_lt_zero _)⟩, fun i hi => absurd hi (Nat.not_lt_zero _)⟩, ⟨0, by decide, c4, m3, fun j _ => (c5 j).trans (m6 j).symm⟩, ⟨fun t ht => ⟨Or.inl (m7 t ht).1, by rw [(m7 t ht).2.1]; exact Rng.of (by decide)⟩, fun t ht => ⟨(c6 t ht).1.trans (m7 t ht).1.symm, (c6 t ht).2.trans (m7 t ht).2.1.symm, fun i hi => ?_⟩⟩, fun i hi => Or.inl ⟨(m7 i hi).2.2, (c7 i hi).1, (c7 i hi).2⟩, ⟨0, by decide, c8, m4, fun i hi => absurd hi (Nat.not_lt_zero _)⟩⟩
  rw [(m7 t ht).2.1, tn_nI (by decide)] at hi
  exact absurd hi (Nat.not_lt_zero _)
