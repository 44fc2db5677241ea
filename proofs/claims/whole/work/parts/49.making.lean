/-! MAKING: a judgement over a growing world (constructors, the law's beginning) -/
abbrev WC : Type := Mt × Nat × Nat × Nat
abbrev WX : Type := (Program × Launch × Env × Room) × (State × MethodId × Array Value × List Frame) × (Method × Code × (State → Prop)) × ((Nat → ClassId) × (Nat → Nat → Nat) × ClassId × ClassId) × ((Nat → Nat) × (Nat → Prop))
abbrev xI (X : WX) : ClassId := X.2.2.2.1.2.2.1
abbrev xB (X : WX) : ClassId := X.2.2.2.1.2.2.2
abbrev idA : Nat → Nat := fun z => z
theorem cv_id (v : Value) : cv idA v = v := by cases v <;> rfl
theorem cv_ids (vs : List Value) : vs.map (cv idA) = vs := by
  induction vs with
  | nil => rfl
  | cons v r ih => rw [List.map_cons, ih, cv_id]
/-- links of LateSeekers to its nested types' constructors -/
def NL (U : State) : Prop := va_Nw (.methodLinkNest "LateSeekers" 11 ⟨"LateSeekers$Trials", "<init>", "()V"⟩ "LateSeekers") U ∧ va_Nw (.methodLinkNest "LateSeekers" 29 ⟨"LateSeekers$TapeReader", "<init>", "()V"⟩ "LateSeekers") U ∧ va_Nw (.methodLinkNest "LateSeekers" 36 ⟨"LateSeekers$Rows", "<init>", "()V"⟩ "LateSeekers") U ∧ va_Nw (.methodLinkNest "LateSeekers" 43 ⟨"LateSeekers$Sheets", "<init>", "()V"⟩ "LateSeekers") U ∧ va_Nw (.methodLinkNest "LateSeekers" 50 ⟨"LateSeekers$Shelves", "<init>", "()V"⟩ "LateSeekers") U ∧ va_Nw (.methodLinkNest "LateSeekers" 57 ⟨"LateSeekers$Actor", "<init>", "()V"⟩ "LateSeekers") U
theorem NL.calling {U : State} (g : JFrame) (mk : MethodId) (a : Array Value) (h : NL U) : NL (U.calling g mk a) := by
  obtain ⟨h1, h2, h3, h4, h5, h6⟩ := h
  exact ⟨va_Nw.same rfl rfl h1, va_Nw.same rfl rfl h2, va_Nw.same rfl rfl h3, va_Nw.same rfl rfl h4, va_Nw.same rfl rfl h5, va_Nw.same rfl rfl h6⟩
theorem NL.warm {s U : State} (hW : s.WarmedH U.vm) (h : NL s) : NL U := by
  obtain ⟨h1, h2, h3, h4, h5, h6⟩ := h
  exact ⟨va_Nw.warmM hW h1, va_Nw.warmM hW h2, va_Nw.warmM hW h3, va_Nw.warmM hW h4, va_Nw.warmM hW h5, va_Nw.warmM hW h6⟩
def OkW (Γ : WC) (X : WX) : Prop := match X with
  | ((p, _, _, R), (s, m, args, _), (meth, c, _), (dC, dI, cI, cB), (ad, A)) =>
    p.tables.exec = Jvm.exec ∧ c.code = Γ.1.2.1 ∧ c.maxLocals = Γ.1.2.2.1 ∧ s.vm.findClass Γ.1.1.cls = some m.cls ∧ (∀ w ∈ tb, w.before args s = true) ∧ va_K (dC, dI) classes (tyl cI cB) s ∧ (∀ q, s.heap.size ≤ q → A q) ∧ (RO ad A s ∧ NL s) ∧ Γ.2.1 ≤ R.frames ∧ 40 * Γ.2.1 ≤ R.locals ∧ Γ.2.2.1 ≤ R.cells ∧ Γ.2.2.2 ≤ R.slots ∧ (Γ.1.1.name = "<init>" → meth.name = "<init>")
def GW (Γ : WC) (X : WX) (ws : va_W) (k n : Nat) (L : List (Option Value)) (st : List Value) (pc : Nat) : Prop := match X with
  | ((p, l, e, R), (s, m, args, below), (meth, c, Q), (dC, dI, cI, cB), (ad, A)) =>
    OkW Γ X → ∀ (H : Heap) (locs : List Loc) (ls : Array Slot), va_P (dC, dI) classes ws H → va_D A ws → va_S A s.heap H locs → lh ls Γ.1.2.2.1 idA L →
      W p l e R s m args below meth c H locs k n Q (F0 m pc ls st)
section WR
variable {Γ : WC} {X : WX} {ws : va_W} {k n : Nat} {L L' : List (Option Value)} {st : List Value} {pc : Nat}
theorem w_iconst {i : Int} {v : Int32} (hd : decode Γ.1.2.1 pc = .ok (.iconst i, 1)) (hv : Int32.ofInt i = v) (kk : GW Γ X ws k n L (.int v :: st) (pc + 1)) : GW Γ X ws k n L (st) pc := by
  obtain ⟨⟨p, l, e, R⟩, ⟨s, m, args, below⟩, ⟨meth, c, Q⟩, ⟨dC, dI, cI, cB⟩, ⟨ad, A⟩⟩ := X
  intro ok H locs ls hP hD hS hl
  have hk := kk ok H locs ls hP hD hS hl
  obtain ⟨hx, hb, -⟩ := ok
  exact lv_iconst hx hb hd hv hk
theorem w_bipush {i : Int} {v : Int32} (hd : decode Γ.1.2.1 pc = .ok (.bipush i, 2)) (hv : (Int8.ofInt i).toInt32 = v) (kk : GW Γ X ws k n L (.int v :: st) (pc + 2)) : GW Γ X ws k n L (st) pc := by
  obtain ⟨⟨p, l, e, R⟩, ⟨s, m, args, below⟩, ⟨meth, c, Q⟩, ⟨dC, dI, cI, cB⟩, ⟨ad, A⟩⟩ := X
  intro ok H locs ls hP hD hS hl
  have hk := kk ok H locs ls hP hD hS hl
  obtain ⟨hx, hb, -⟩ := ok
  exact lv_bipush hx hb hd hv hk
theorem w_sipush {i : Int} {v : Int32} (hd : decode Γ.1.2.1 pc = .ok (.sipush i, 3)) (hv : (Int16.ofInt i).toInt32 = v) (kk : GW Γ X ws k n L (.int v :: st) (pc + 3)) : GW Γ X ws k n L (st) pc := by
  obtain ⟨⟨p, l, e, R⟩, ⟨s, m, args, below⟩, ⟨meth, c, Q⟩, ⟨dC, dI, cI, cB⟩, ⟨ad, A⟩⟩ := X
  intro ok H locs ls hP hD hS hl
  have hk := kk ok H locs ls hP hD hS hl
  obtain ⟨hx, hb, -⟩ := ok
  exact lv_sipush hx hb hd hv hk
theorem w_aload_n {i : Fin 4} {v : Nat} (hd : decode Γ.1.2.1 pc = .ok (.aload_n i, 1)) (h : L[(i : Nat)]? = some (some (.ref v))) (kk : GW Γ X ws k n L (.ref v :: st) (pc + 1)) : GW Γ X ws k n L (st) pc := by
  obtain ⟨⟨p, l, e, R⟩, ⟨s, m, args, below⟩, ⟨meth, c, Q⟩, ⟨dC, dI, cI, cB⟩, ⟨ad, A⟩⟩ := X
  intro ok H locs ls hP hD hS hl
  have hk := kk ok H locs ls hP hD hS hl
  obtain ⟨hx, hb, -⟩ := ok
  exact lv_aload_n hx hb hd rfl (lh_at hl h) hk
theorem w_dup {v : Value} (hd : decode Γ.1.2.1 pc = .ok (.dup, 1)) (hc : v.category = 1) (kk : GW Γ X ws k n L (v :: v :: st) (pc + 1)) : GW Γ X ws k n L (v :: st) pc := by
  obtain ⟨⟨p, l, e, R⟩, ⟨s, m, args, below⟩, ⟨meth, c, Q⟩, ⟨dC, dI, cI, cB⟩, ⟨ad, A⟩⟩ := X
  intro ok H locs ls hP hD hS hl
  have hk := kk ok H locs ls hP hD hS hl
  obtain ⟨hx, hb, -⟩ := ok
  exact lv_dup hx hb hd hc hk
set_option maxRecDepth 20000 in
theorem arr_I : Cond.arrayClass .int ∈ tb := tb_mem 173 rfl rfl
theorem w_newI {N : Nat} {v : Int32} (hd : decode Γ.1.2.1 pc = .ok (.newarray .int, 2)) (hv : v = nI N) (hN : N ≤ 1000) (hk : k + 1 ≤ Γ.2.2.1) (hn : n + N ≤ Γ.2.2.2) (kk : ∀ q, GW Γ X (ws ++ [(q, .inl (xI X, N, .inl (fun _ => 0)))]) (k + 1) (n + N) L (.ref q :: st) (pc + 2)) : GW Γ X ws k n L (.int v :: st) pc := by
  obtain ⟨⟨p, l, e, R⟩, ⟨s, m, args, below⟩, ⟨meth, c, Q⟩, ⟨dC, dI, cI, cB⟩, ⟨ad, A⟩⟩ := X
  intro ok H locs ls hP hD hS hl
  have h1 := fun q H1 hP hD hS => kk q ok H1 locs ls hP hD hS hl
  obtain ⟨hx, hb, hm, hown, hts, hK, hA, hRO, hfr, hlo, hce, hsl, -⟩ := ok
  subst hv
  refine va_newa (ty := .int) (atype := .int) (N' := N) (a0 := (N, .inl (fun _ => 0))) hx hb (hts _ arr_I) rfl hK hP hD hS hA (fun cA => rfl) (nI_pos (by omega)) (nI_clamp (by omega)) (by show N * 4 ≤ _; omega) (by omega) (by omega) hd (fun q cA H1 hK1 hP1 hD1 hS1 => ?_)
  have e1 : s.vm.findClass _ = some cA := (hK1.2 2 (cA, .int) rfl).2
  have e2 : s.vm.findClass _ = some cI := (hK.2 0 (cI, .int) rfl).2
  have e3 : cA = cI := Option.some.inj (e1.symm.trans e2)
  subst e3
  exact h1 q H1 hP1 hD1 hS1
set_option maxRecDepth 20000 in
theorem arr_B : Cond.arrayClass .byte ∈ tb := tb_mem 211 rfl rfl
theorem w_newB {N : Nat} {v : Int32} (hd : decode Γ.1.2.1 pc = .ok (.newarray .byte, 2)) (hv : v = nI N) (hN : N ≤ 1000) (hk : k + 1 ≤ Γ.2.2.1) (hn : n + N ≤ Γ.2.2.2) (kk : ∀ q, GW Γ X (ws ++ [(q, .inl (xB X, N, .inl (fun _ => 0)))]) (k + 1) (n + N) L (.ref q :: st) (pc + 2)) : GW Γ X ws k n L (.int v :: st) pc := by
  obtain ⟨⟨p, l, e, R⟩, ⟨s, m, args, below⟩, ⟨meth, c, Q⟩, ⟨dC, dI, cI, cB⟩, ⟨ad, A⟩⟩ := X
  intro ok H locs ls hP hD hS hl
  have h1 := fun q H1 hP hD hS => kk q ok H1 locs ls hP hD hS hl
  obtain ⟨hx, hb, hm, hown, hts, hK, hA, hRO, hfr, hlo, hce, hsl, -⟩ := ok
  subst hv
  refine va_newa (ty := .byte) (atype := .byte) (N' := N) (a0 := (N, .inl (fun _ => 0))) hx hb (hts _ arr_B) rfl hK hP hD hS hA (fun cA => rfl) (nI_pos (by omega)) (nI_clamp (by omega)) (by show N * 1 ≤ _; omega) (by omega) (by omega) hd (fun q cA H1 hK1 hP1 hD1 hS1 => ?_)
  have e1 : s.vm.findClass _ = some cA := (hK1.2 2 (cA, .byte) rfl).2
  have e2 : s.vm.findClass _ = some cB := (hK.2 1 (cB, .byte) rfl).2
  have e3 : cA = cB := Option.some.inj (e1.symm.trans e2)
  subst e3
  exact h1 q H1 hP1 hD1 hS1
theorem w_put {i ci j q0 a : Nat} {d : String} {fs : List Value} {v : Value} {ty : FieldType} (hd : decode Γ.1.2.1 pc = .ok (.putfield i, 3)) (hini : Γ.1.1.name = "<init>") (hf : FL Γ.1.1.cls i ci j d) (hfin : ∀ C T N, classes[ci]? = some (C, T, N) → (T j).2.2.2 = false ∨ ((T j).2.2.2 = true ∧ (T j).1 = Γ.1.1.cls)) (hty : parseFieldDescriptor d = some ty) (hnr : narrow ty v = v) (hft : fits ty v = true) (he : ws[q0]? = some (a, .inr (ci, fs))) (hl' : j < fs.length) (kk : GW Γ X (ws.set q0 (a, .inr (ci, fs.set j v))) k n L st (pc + 3)) : GW Γ X ws k n L (v :: .ref a :: st) pc := by
  obtain ⟨⟨p, l, e, R⟩, ⟨s, m, args, below⟩, ⟨meth, c, Q⟩, ⟨dC, dI, cI, cB⟩, ⟨ad, A⟩⟩ := X
  intro ok H locs ls hP hD hS hl
  have h1 := fun H1 locs1 hP hD hS => kk ok H1 locs1 ls hP hD hS hl
  obtain ⟨hx, hb, hm, hown, hts, hK, hA, hRO, hfr, hlo, hce, hsl, hin2⟩ := ok
  obtain ⟨h0, C, T, N, hc, hjN, hlk, hdd⟩ := hf
  obtain ⟨C', T', N', t', hc', hin, hts2, hnm⟩ := cf_all ci h0
  rw [hc] at hc'
  cases hc'
  rcases hfin _ _ _ hc with hf1 | ⟨hf1, hf2⟩
  · exact va_put (v := v) (ty := ty) hx hb hts hin t' hts2 hnm hown hK hP hD hS q0 he hc j hjN (hts _ hlk) (fun _ h => h) hf1 (by rw [hdd]; exact hty) hnr hft hl' hd (fun H1 locs1 hP1 hD1 hS1 => h1 H1 locs1 hP1 hD1 hS1)
  · exact va_putF (v := v) (ty := ty) hx hb hts hin t' hts2 hnm hown hK hP hD hS q0 he hc j hjN (hts _ hlk) (fun _ h => h) hf1 (hin2 hini) hf2 (by rw [hdd]; exact hty) hnr hft hl' hd (fun H1 locs1 hP1 hD1 hS1 => h1 H1 locs1 hP1 hD1 hS1)
theorem w_get {i ci j q0 a : Nat} {d : String} {fs : List Value} {v : Value} (hd : decode Γ.1.2.1 pc = .ok (.getfield i, 3)) (hf : FL Γ.1.1.cls i ci j d) (he : ws[q0]? = some (a, .inr (ci, fs))) (hv : fs[j]? = some v) (kk : GW Γ X ws k n L (v :: st) (pc + 3)) : GW Γ X ws k n L (.ref a :: st) pc := by
  obtain ⟨⟨p, l, e, R⟩, ⟨s, m, args, below⟩, ⟨meth, c, Q⟩, ⟨dC, dI, cI, cB⟩, ⟨ad, A⟩⟩ := X
  intro ok H locs ls hP hD hS hl
  have h1 := kk ok H locs ls hP hD hS hl
  obtain ⟨hx, hb, hm, hown, hts, hK, -⟩ := ok
  obtain ⟨h0, C, T, N, hc, hj, hlk, hdd⟩ := hf
  obtain ⟨C', T', N', t', hc', hin, -, -⟩ := cf_all ci h0
  rw [hc] at hc'
  cases hc'
  exact va_get (v := v) hx hb hts hin hown hK hP q0 he hc j hj (hts _ hlk) (fun _ h => h) hv hd h1
theorem w_iast {j q0 a N : Nat} {f : Nat → Int32} {i x : Int32} (hd : decode Γ.1.2.1 pc = .ok (.iastore, 1)) (he : ws[q0]? = some (a, .inl (xI X, N, .inl f))) (hi : i = nI j) (hj : j < N) (hN : N < 2 ^ 31) (kk : GW Γ X (ws.set q0 (a, .inl (xI X, N, .inl (upd f j x)))) k n L st (pc + 1)) : GW Γ X ws k n L (.int x :: .int i :: .ref a :: st) pc := by
  obtain ⟨⟨p, l, e, R⟩, ⟨s, m, args, below⟩, ⟨meth, c, Q⟩, ⟨dC, dI, cI, cB⟩, ⟨ad, A⟩⟩ := X
  intro ok H locs ls hP hD hS hl
  have h1 := fun H1 locs1 hP hD hS => kk ok H1 locs1 ls hP hD hS hl
  obtain ⟨hx, hb, hm, hown, hts, hK, -⟩ := ok
  obtain ⟨g1, g2⟩ := cl_of hi hj hN
  refine va_iast hx hb hK hP hD hS q0 0 he rfl g1 hd (fun H1 locs1 hP1 hD1 hS1 => ?_)
  rw [g2] at hP1 hD1
  exact h1 H1 locs1 hP1 hD1 hS1
set_option maxRecDepth 20000 in
theorem oi_1 : Cond.instanceMethod Lib.objectInit ∈ tb := tb_mem 91 rfl rfl
set_option maxRecDepth 20000 in
theorem oi_2 : Cond.code Lib.objectInit ⟨#[0xb1]⟩ 1 none ∈ tb := tb_mem 92 rfl rfl
theorem w_obj {i a : Nat} (hd : decode Γ.1.2.1 pc = .ok (.invokespecial i, 3)) (hlk : Cond.methodLink Γ.1.1.cls i Lib.objectInit ∈ tb) (hdep : 1 ≤ Γ.2.1) (hst : (st.map (fun v => v.category)).sum ≤ 8) (kk : GW Γ X ws k n L st (pc + 3)) : GW Γ X ws k n L (.ref a :: st) pc := by
  obtain ⟨⟨p, l, e, R⟩, ⟨s, m, args, below⟩, ⟨meth, c, Q⟩, ⟨dC, dI, cI, cB⟩, ⟨ad, A⟩⟩ := X
  intro ok H locs ls hP hD hS hl
  have h1 := kk ok H locs ls hP hD hS hl
  obtain ⟨hx, hb, hm, hown, hts, hK, hA, hRO, hfr, hlo, -⟩ := ok
  exact W.objInit hx hb hown (hts _ hlk) (hts _ oi_1) (hts _ oi_2) rfl (by rw [hm]; exact hl.1) rfl hd (by omega) (by show 2 * 0 + _ + 12 ≤ _; omega) h1
theorem w_new {i ci N : Nat} {C : String} {T : u_T} {fs : List Value} {ty : Nat → FieldType} (hd : decode Γ.1.2.1 pc = .ok (.new i, 3)) (hc : classes[ci]? = some (C, T, N)) (hin : ∀ w ∈ u_ws C T N, w ∈ tb) (hty : ∀ k, k < N → parseFieldDescriptor (T k).2.2.1 = some (ty k)) (hlk : Cond.classLink Γ.1.1.cls i C ∈ tb ∧ Cond.instantiable C N ∈ tb ∧ Cond.initialized C ∈ tb) (hfs : ∀ j, j < N → defaultValue (ty j) = vp_V fs j) (hk : k + 1 ≤ Γ.2.2.1) (hn : n + N ≤ Γ.2.2.2) (kk : ∀ q, GW Γ X (ws ++ [(q, .inr (ci, fs))]) (k + 1) (n + N) L (.ref q :: st) (pc + 3)) : GW Γ X ws k n L st pc := by
  obtain ⟨⟨p, l, e, R⟩, ⟨s, m, args, below⟩, ⟨meth, c, Q⟩, ⟨dC, dI, cI, cB⟩, ⟨ad, A⟩⟩ := X
  intro ok H locs ls hP hD hS hl
  have h1 := fun q H1 hP hD hS => kk q ok H1 locs ls hP hD hS hl
  obtain ⟨hx, hb, hm, hown, hts, hK, hA, hRO, hfr, hlo, hce, hsl, -⟩ := ok
  exact va_new hx hb hts hin ty hty hown (hts _ hlk.1) (hts _ hlk.2.1) (hts _ hlk.2.2) hK hP hD hS hA hc hfs (by omega) (by omega) hd (fun q H1 hP1 hD1 hS1 => h1 q H1 hP1 hD1 hS1)
theorem w_widen {k' n' : Nat} (h1 : k ≤ k') (h2 : n ≤ n') (kk : GW Γ X ws k' n' L st pc) : GW Γ X ws k n L st pc := by
  obtain ⟨⟨p, l, e, R⟩, ⟨s, m, args, below⟩, ⟨meth, c, Q⟩, ⟨dC, dI, cI, cB⟩, ⟨ad, A⟩⟩ := X
  intro ok H locs ls hP hD hS hl
  exact W.widen h1 h2 (kk ok H locs ls hP hD hS hl)
theorem w_ws {ws' : va_W} (h : ws = ws') (kk : GW Γ X ws' k n L st pc) : GW Γ X ws k n L st pc := by rw [h]; exact kk
end WR
def rmc (d mc ms : Nat) : Room := { frames := d, cells := mc, slots := ms, locals := 40 * d }
abbrev ob (h0 ci : Nat) (fs : List Value) : va_W := [(h0, .inr (ci, fs))]
def Pi (ci : Nat) (fs : List Value) (dC : Nat → ClassId) (dI : Nat → Nat → Nat) (cI cB : ClassId) (ad : Nat → Nat) (h0 sz : Nat) (U : State) : Prop :=
  U.heap.size = sz ∧ va_P (dC, dI) classes (ob h0 ci fs) U.heap ∧ va_K (dC, dI) classes (tyl cI cB) U ∧ va_D (fun _ => True) (ob h0 ci fs) ∧ RO ad (va_A (ob h0 ci fs) sz) U ∧ NL U
def Qi (Λ : Lay) (ci : Nat) (fs : List Value) (dC : Nat → ClassId) (dI : Nat → Nat → Nat) (cI cB : ClassId) (h0 sz : Nat) (Post : Store → Prop) : Array Value → State → Outcome → State → Prop := fun _ st oc t =>
  (oc = .returned none ∧ ∃ (ad' : Nat → Nat) (σ : Store), ad' 0 = h0 ∧ Post σ ∧ va_P (dC, dI) classes (wr cI cB ad' σ 0 Λ) t.heap ∧ va_D (va_A (ob h0 ci fs) sz) (wr cI cB ad' σ 0 Λ)) ∧ va_F (va_A (ob h0 ci fs) sz) st t
/-- a constructor's contract: it makes mc cells of ms slots; behind it the layout Λ stands -/
def Ci (Λ : Lay) (ci : Nat) (fs : List Value) (μ : Mt) (d mc ms : Nat) (Post : Store → Prop) : Prop :=
  ∀ (l : Launch) (dC : Nat → ClassId) (dI : Nat → Nat → Nat) (cI cB : ClassId) (ad : Nat → Nat) (h0 sz : Nat), Met l μ.1 (wds μ) (rmc d mc ms) (va_Pc [.ref h0] (Pi ci fs dC dI cI cB ad h0 sz)) (Qi Λ ci fs dC dI cI cB h0 sz Post) mc ms (va_A (ob h0 ci fs) sz)
def RtI (Γ : WC) (Λ : Lay) (h0 ci : Nat) (fs : List Value) (Post : Store → Prop) (X : WX) : Prop := match X with
  | (_, (s, _, args, below), (meth, _, Q), (dC, dI, cI, cB), (_, A)) =>
    meth.sig.returnType = none ∧ meth.locks = false ∧ A = va_A (ob h0 ci fs) s.heap.size ∧ Q = MQ below (Qi Λ ci fs dC dI cI cB h0 s.heap.size Post) args s Γ.2.2.1 Γ.2.2.2 (va_A (ob h0 ci fs) s.heap.size)
theorem Ci.of {Λ : Lay} {ci : Nat} {fs : List Value} {μ : Mt} {d mc ms : Nat} {Post : Store → Prop} (hy : plainName μ.1.cls = true) (hr0 : μ.2.2.2 = none) (hm1 : 1 ≤ μ.2.2.1) (hnm : μ.1.name = "<init>") (body : ∀ (X : WX) (h0 : Nat), RtI (μ, d, mc, ms) Λ h0 ci fs Post X → GW (μ, d, mc, ms) X (ob h0 ci fs) 0 0 (ent [.ref h0] μ.2.2.1) [] 0) : Ci Λ ci fs μ d mc ms Post := by
  intro l dC dI cI cB ad h0 sz
  refine Met.ofW (cc := μ.2.1) (maxL := μ.2.2.1) (ret := μ.2.2.2) hy rfl ?_
  intro p e s m args below meth c s₁ B hml hv
  obtain ⟨rfl, hsz, hP, hK, hD0, hRO⟩ := hv
  have hts := atoms_spec (ws := wds μ) B.pre
  have hown : s.vm.findClass μ.1.cls = some m.cls := findClass_of_methodNamed B.named
  have hin : meth.name = μ.1.name := (name_of_methodNamed B.named B.method).1
  subst hsz
  have hD := hD0.self (sz := s.heap.size)
  have hl := lv_entry ([.ref h0]) (n := μ.2.2.1) hm1
  rw [lg_entry_eq]
  generalize (lg_sl ([.ref h0]) ++ List.replicate (μ.2.2.1 - (lg_sl ([.ref h0])).length) Slot.unset).toArray = ls at hl ⊢
  exact body ((p, l, e, (headSpec (wds μ) (rmc d mc ms)).room), (s, m, ([.ref h0] : List Value).toArray, below), (meth, c, MQ below (Qi Λ ci fs dC dI cI cB h0 s.heap.size Post) ([.ref h0] : List Value).toArray s mc ms (va_A (ob h0 ci fs) s.heap.size)), (dC, dI, cI, cB), (ad, va_A (ob h0 ci fs) s.heap.size)) h0
    ⟨B.returns.trans hr0, B.notSynchronized, rfl, rfl⟩ ⟨B.exec, B.bytes, hml, hown, fun w hw => hts w (List.mem_cons_of_mem _ hw), hK, fun q h => Or.inr h, hRO, Nat.le_refl _, Nat.le_refl _, Nat.le_refl _, Nat.le_refl _, fun h => hin.trans h⟩ s.heap [] ls hP hD va_S.rf (lh_ent (as := [.ref h0]) hl)
theorem w_ret {Γ : WC} {X : WX} {ws : va_W} {k n h0 ci : Nat} {fs : List Value} {Λ : Lay} {L : List (Option Value)} {pc : Nat} {Post : Store → Prop} (hR : RtI Γ Λ h0 ci fs Post X) (hd : decode Γ.1.2.1 pc = .ok (.return_, 1)) (hk : k ≤ Γ.2.2.1) (hn : n ≤ Γ.2.2.2) (ad' : Nat → Nat) (σ : Store) (h0' : ad' 0 = h0) (hp : Post σ) (hws : ws = wr (xI X) (xB X) ad' σ 0 Λ) : GW Γ X ws k n L [] pc := by
  obtain ⟨⟨p, l, e, R⟩, ⟨s, m, args, below⟩, ⟨meth, c, Q⟩, ⟨dC, dI, cI, cB⟩, ⟨ad, A⟩⟩ := X
  intro ok H locs ls hP hD hS hl
  obtain ⟨hr2, hlk, hA, hQ⟩ := hR
  obtain ⟨hx, hb, -⟩ := ok
  subst hA; subst hQ; subst hws
  refine W.widen hk hn ?_
  exact W.vret hx hb hr2 (fun t ht hW => ⟨⟨rfl, ad', σ, h0', hp, by rw [ht]; exact hP, hD⟩, hS.F ht⟩) hS.2.2 hd hlk
theorem rng_map {α : Type} (w0 : List α) (x : α) : (List.range w0.length).map (fun i => (w0 ++ [x])[i]?) = w0.map some := by
  apply List.ext_getElem?
  intro i
  rw [List.getElem?_map, List.getElem?_map]
  by_cases h : i < w0.length
  · rw [List.getElem?_range h, Option.map_some, List.getElem?_append_left h, List.getElem?_eq_getElem h]; rfl
  · rw [List.getElem?_eq_none (by rw [List.length_range]; omega), List.getElem?_eq_none (by omega)]; rfl
theorem va_nd_range (n : Nat) : va_nd (List.range n) = true := by
  have key : ∀ l : List Nat, l.Nodup → va_nd l = true := by
    intro l
    induction l with
    | nil => intro _; rfl
    | cons a r ih =>
      intro h
      obtain ⟨h1, h2⟩ := List.nodup_cons.mp h
      simp [va_nd, h1, ih h2]
  exact key _ List.nodup_range
theorem Pi_blind {ci : Nat} {fs : List Value} {dC : Nat → ClassId} {dI : Nat → Nat → Nat} {cI cB : ClassId} {ad : Nat → Nat} {h0 sz : Nat} {av : List Value} : FrameBlind (va_Pc av (Pi ci fs dC dI cI cB ad h0 sz)) := by
  intro a U g mk h
  obtain ⟨h0, h1, h2, h3, h4, h5, h6⟩ := h
  exact ⟨h0, h1, h2, va_K.moved (u := U) (U := U.calling g mk a) (Vm.Alike.refl U.vm) h3, h4, h5.calling g mk a, h6.calling g mk a⟩
/-- what is known of a constructor without parameters -/
def LkI (ν : Mt) : Prop := Cond.instanceMethod ν.1 ∈ tb ∧ Cond.initialized ν.1.cls ∈ tb ∧ Cond.code ν.1 ν.2.1 ν.2.2.1 none ∈ tb ∧ (ν.2.2.2 = none ∧ ν.1.name = "<init>" ∧ (ν.1.cls ≠ "java/lang/invoke/MethodHandle" ∧ ν.1.cls ≠ "java/lang/invoke/VarHandle" ∧ (parseMethodDescriptor ν.1.desc).map (fun d => d.parameters.length) = some 0) ∧ ν.2.2.1 ≤ 20)
theorem w_init {Γ : WC} {X : WX} {ws ws0 : va_W} {k n : Nat} {L : List (Option Value)} {st : List Value} {pc : Nat} {Λ : Lay} {ci i d mc ms q : Nat} {fs : List Value} {ν : Mt} {P : Store → Prop} (hd : decode Γ.1.2.1 pc = .ok (.invokespecial i, 3)) (hlk : Cond.methodLink Γ.1.1.cls i ν.1 ∈ tb) (hν : LkI ν) (hC : Ci Λ ci fs ν d mc ms P) (hws : ws = ws0 ++ ob q ci fs) (hroom : (st.map (fun v => v.category)).sum ≤ 8) (hdep : d < Γ.2.1) (hk : k + mc ≤ Γ.2.2.1) (hn : n + ms ≤ Γ.2.2.2) (kk : ∀ (ad' : Nat → Nat) (σ : Store), ad' 0 = q → P σ → GW Γ X (ws0 ++ wr (xI X) (xB X) ad' σ 0 Λ) (k + mc) (n + ms) L st (pc + 3)) : GW Γ X ws k n L (.ref q :: st) pc := by
  obtain ⟨⟨p, l, e, R⟩, ⟨s, m, args, below⟩, ⟨meth, c, Q⟩, ⟨dC, dI, cI, cB⟩, ⟨ad, A⟩⟩ := X
  intro ok H locs ls hP hD hS hl
  have h1 := fun ad' σ h0 hp H1 locs1 hP hD hS => kk ad' σ h0 hp ok H1 locs1 ls hP hD hS hl
  obtain ⟨hx, hb, hm, hown, hts, hK, hA, hRO, hfr, hlo, hce, hsl, -⟩ := ok
  obtain ⟨l1, l2, l3, l4, l5, l6, l7⟩ := hν
  subst hws
  have hix : (ws0 ++ ob q ci fs)[ws0.length]? = some (q, .inr (ci, fs)) := by rw [List.getElem?_append_right (Nat.le_refl _), Nat.sub_self]; rfl
  have hC1 : [ws0.length].map (fun i => (ws0 ++ ob q ci fs)[i]?) = (ob q ci fs).map some := by
    show [(ws0 ++ ob q ci fs)[ws0.length]?] = _
    rw [hix]; rfl
  have hPc : va_P (dC, dI) classes (ob q ci fs) H := fun j x hx => hP (ws0.length + j) x (by rw [List.getElem?_append_right (by omega), show ws0.length + j - ws0.length = j by omega]; exact hx)
  have hDc : va_D A (ob q ci fs) := hD.sub [ws0.length] rfl hC1
  have hFc := va_free (wc := ob q ci fs) hD hS hA [ws0.length] hC1
  have hrm : 2 * (F0 m pc ls (.ref q :: st)).monitorRoom + (st.map fun v => v.category).sum ≤ 8 := by show 2 * 0 + _ ≤ 8; omega
  have hw : wds ν = Cond.code ν.1 ν.2.1 ν.2.2.1 none :: tb := by
    show Cond.code ν.1 ν.2.1 ν.2.2.1 ν.2.2.2 :: tb = _
    rw [l4]
  have hgd : GoodIn tb (wds ν) := good_tb (by rw [l4]; exact l3)
  have cw : CallB R s args Γ.1.1.cls i ν.1 ν.2.1 ν.2.2.1 none (wds ν) (rmc d mc ms) mc ms 0 ∧ ν.1.name = "<init>" ∧ (Cond.instanceMethod ν.1).before args s = true := cwI 0 hts hgd hw rfl rfl (hts _ l2) (hts _ hlk) (hts _ l1) l5 l6 ⟨by show d + 1 ≤ _; omega, by show 8 + (ν.2.2.1 + 11) + 40 * d ≤ _; omega⟩
  have hrun := va_runI (p := p) (e := e) (below := below) (meth := meth) (locs := locs) (cells := k) (slots := n) (nL := Γ.1.2.2.1) (g := F0 m pc ls (.ref q :: st)) (As := []) (rest := st) (b := q) ⟨hx, hb, hm, hown, hts⟩ (hC l dC dI cI cB ad q H.size) cw ⟨Pi_blind, fun U hU hW => ⟨rfl, by rw [hU], by rw [hU]; exact hPc, va_K.moved hW.alike hK, hDc.weaken (fun _ _ _ _ => trivial), hRO.1.later hS hU hW hFc, hRO.2.warm hW⟩⟩ rfl rfl hl.1 rfl hrm hd ⟨by omega, by omega⟩
  intro T hT Y
  obtain ⟨v, st₀, t, T', Lq, h0, Y', hL, e1, e2, ⟨⟨hv, ad', σ, had, hp, hP1, hD1⟩, hz, hkk⟩, go⟩ := hrun T hT Y
  cases hv
  rw [h0] at hz hkk
  have hP2 : va_P (dC, dI) classes (wr cI cB ad' σ 0 Λ) T'.heap := by rw [e1]; exact hP1
  obtain ⟨hP3, hD3⟩ := va_join (wr := ws0) (w1 := wr cI cB ad' σ 0 Λ) hP hD [ws0.length] (List.range ws0.length) hC1 (rng_map ws0 _) (va_nd_range _) (fun i hi hj => by rw [List.mem_range] at hi; simp at hj; omega) (fun q h1 h2 => by rw [e1]; exact hkk q h1 h2) hFc hP2 hD1
  obtain ⟨t2, a1, b1⟩ := h1 ad' σ had hp T'.heap (locs ++ Lq) hP3 hD3 ⟨Nat.le_trans hS.1 (by rw [e1]; exact hz), fun q h1 h2 => by rw [e1, hkk q (Nat.lt_of_lt_of_le h1 hS.1) (fun z => h2 (hFc q z))]; exact hS.2.1 q h1 h2, fun q hq => by
      rcases List.mem_append.mp hq with h | h
      · exact hS.2.2 q h
      · exact hFc _ (hL q h)⟩ T' rfl Y'
  exact ⟨t2, go t2 a1, b1⟩
theorem w_initN {Γ : WC} {X : WX} {ws ws0 : va_W} {k n : Nat} {L : List (Option Value)} {st : List Value} {pc : Nat} {Λ : Lay} {ci i d mc ms q : Nat} {fs : List Value} {ν : Mt} {P : Store → Prop} (hd : decode Γ.1.2.1 pc = .ok (.invokespecial i, 3)) (hlk : Γ.1.1.cls = "LateSeekers" ∧ ∀ U, NL U → va_Nw (.methodLinkNest "LateSeekers" i ν.1 "LateSeekers") U) (hν : LkI ν) (hC : Ci Λ ci fs ν d mc ms P) (hws : ws = ws0 ++ ob q ci fs) (hroom : (st.map (fun v => v.category)).sum ≤ 8) (hdep : d < Γ.2.1) (hk : k + mc ≤ Γ.2.2.1) (hn : n + ms ≤ Γ.2.2.2) (kk : ∀ (ad' : Nat → Nat) (σ : Store), ad' 0 = q → P σ → GW Γ X (ws0 ++ wr (xI X) (xB X) ad' σ 0 Λ) (k + mc) (n + ms) L st (pc + 3)) : GW Γ X ws k n L (.ref q :: st) pc := by
  obtain ⟨⟨p, l, e, R⟩, ⟨s, m, args, below⟩, ⟨meth, c, Q⟩, ⟨dC, dI, cI, cB⟩, ⟨ad, A⟩⟩ := X
  intro ok H locs ls hP hD hS hl
  have h1 := fun ad' σ h0 hp H1 locs1 hP hD hS => kk ad' σ h0 hp ok H1 locs1 ls hP hD hS hl
  obtain ⟨hx, hb, hm, hown, hts, hK, hA, hRO, hfr, hlo, hce, hsl, -⟩ := ok
  obtain ⟨l1, l2, l3, l4, l5, l6, l7⟩ := hν
  subst hws
  have hix : (ws0 ++ ob q ci fs)[ws0.length]? = some (q, .inr (ci, fs)) := by rw [List.getElem?_append_right (Nat.le_refl _), Nat.sub_self]; rfl
  have hC1 : [ws0.length].map (fun i => (ws0 ++ ob q ci fs)[i]?) = (ob q ci fs).map some := by
    show [(ws0 ++ ob q ci fs)[ws0.length]?] = _
    rw [hix]; rfl
  have hPc : va_P (dC, dI) classes (ob q ci fs) H := fun j x hx => hP (ws0.length + j) x (by rw [List.getElem?_append_right (by omega), show ws0.length + j - ws0.length = j by omega]; exact hx)
  have hDc : va_D A (ob q ci fs) := hD.sub [ws0.length] rfl hC1
  have hFc := va_free (wc := ob q ci fs) hD hS hA [ws0.length] hC1
  have hrm : 2 * (F0 m pc ls (.ref q :: st)).monitorRoom + (st.map fun v => v.category).sum ≤ 8 := by show 2 * 0 + _ ≤ 8; omega
  have hw : wds ν = Cond.code ν.1 ν.2.1 ν.2.2.1 none :: tb := by
    show Cond.code ν.1 ν.2.1 ν.2.2.1 ν.2.2.2 :: tb = _
    rw [l4]
  have hgd : GoodIn tb (wds ν) := good_tb (by rw [l4]; exact l3)
  have hN : va_Nw (.methodLinkNest Γ.1.1.cls i ν.1 "LateSeekers") s := by rw [hlk.1]; exact hlk.2 _ hRO.2
  have cw : va_CN R s args Γ.1.1.cls i ν.1 "LateSeekers" ν.2.1 ν.2.2.1 none (wds ν) (rmc d mc ms) mc ms 0 ∧ ν.1.name = "<init>" ∧ (Cond.instanceMethod ν.1).before args s = true := ⟨va_cnB 0 hts hgd hw rfl rfl hN (hts _ l2) l6 ⟨by show d + 1 ≤ _; omega, by show 8 + (ν.2.2.1 + 11) + 40 * d ≤ _; omega⟩, l5, hts _ l1⟩
  have hrun := va_runIN (p := p) (e := e) (below := below) (meth := meth) (locs := locs) (cells := k) (slots := n) (nL := Γ.1.2.2.1) (g := F0 m pc ls (.ref q :: st)) (As := []) (rest := st) (b := q) ⟨hx, hb, hm, hown, hts⟩ (hC l dC dI cI cB ad q H.size) cw ⟨Pi_blind, fun U hU hW => ⟨rfl, by rw [hU], by rw [hU]; exact hPc, va_K.moved hW.alike hK, hDc.weaken (fun _ _ _ _ => trivial), hRO.1.later hS hU hW hFc, hRO.2.warm hW⟩⟩ rfl rfl hl.1 rfl hrm hd ⟨by omega, by omega⟩
  intro T hT Y
  obtain ⟨v, st₀, t, T', Lq, h0, Y', hL, e1, e2, ⟨⟨hv, ad', σ, had, hp, hP1, hD1⟩, hz, hkk⟩, go⟩ := hrun T hT Y
  cases hv
  rw [h0] at hz hkk
  have hP2 : va_P (dC, dI) classes (wr cI cB ad' σ 0 Λ) T'.heap := by rw [e1]; exact hP1
  obtain ⟨hP3, hD3⟩ := va_join (wr := ws0) (w1 := wr cI cB ad' σ 0 Λ) hP hD [ws0.length] (List.range ws0.length) hC1 (rng_map ws0 _) (va_nd_range _) (fun i hi hj => by rw [List.mem_range] at hi; simp at hj; omega) (fun q h1 h2 => by rw [e1]; exact hkk q h1 h2) hFc hP2 hD1
  obtain ⟨t2, a1, b1⟩ := h1 ad' σ had hp T'.heap (locs ++ Lq) hP3 hD3 ⟨Nat.le_trans hS.1 (by rw [e1]; exact hz), fun q h1 h2 => by rw [e1, hkk q (Nat.lt_of_lt_of_le h1 hS.1) (fun z => h2 (hFc q z))]; exact hS.2.1 q h1 h2, fun q hq => by
      rcases List.mem_append.mp hq with h | h
      · exact hS.2.2 q h
      · exact hFc _ (hL q h)⟩ T' rfl Y'
  exact ⟨t2, go t2 a1, b1⟩
