/-! fields and arrays of the store; what nobody writes -/
/-- entry i of the pool of type own is field j of type ci, of descriptor d -/
def FL (own : String) (i ci j : Nat) (d : String) : Prop := ci < 9 ∧ ∃ (C : String) (T : u_T) (N : Nat), classes[ci]? = some (C, T, N) ∧ j < N ∧ Cond.fieldLink own i (T j).1 (T j).2.1 (T j).2.2.1 ∈ tb ∧ (T j).2.2.1 = d
def FLp (own : String) (i ci j : Nat) (d : String) : Prop := ci < 9 ∧ ∃ (C : String) (T : u_T) (N : Nat), classes[ci]? = some (C, T, N) ∧ j < N ∧ Cond.fieldLink own i (T j).1 (T j).2.1 (T j).2.2.1 ∈ tb ∧ (T j).2.2.1 = d ∧ (T j).2.2.2 = false
theorem FLp.get {own : String} {i ci j : Nat} {d : String} (h : FLp own i ci j d) : FL own i ci j d := by
  obtain ⟨h0, C, T, N, h1, h2, h3, h4, -⟩ := h
  exact ⟨h0, C, T, N, h1, h2, h3, h4⟩
section GM
variable {Γ : MC} {X : CX} {σ : Store} {L L' : List (Option Value)} {st : List Value} {pc : Nat}
theorem g_get {i ci j k : Nat} {d : String} {fs : List (Option Nat)} {v : Value} (hd : decode Γ.2.1.2.1 pc = .ok (.getfield i, 3)) (hf : FL Γ.2.1.1.cls i ci j d) (hk : Γ.1[k]? = some (.inr (ci, fs))) (hv : ∀ ad, (fs[j]?).map (fo ad (σ k) j) = some (cv ad v)) (kk : G Γ X σ L (v :: st) (pc + 3)) : G Γ X σ L (.ref k :: st) pc := by
  obtain ⟨⟨p, l, e, R⟩, ⟨s, m, args, below⟩, ⟨meth, c, Q⟩, ⟨dC, dI, cI, cB⟩, ⟨ad, A, cells, slots⟩⟩ := X
  intro ok H locs ls hP hS hl
  have h1 := kk ok H locs ls hP hS hl
  obtain ⟨hx, hb, hm, hown, hts, hK, -⟩ := ok
  obtain ⟨h0, C, T, N, hc, hj, hlk, hdd⟩ := hf
  obtain ⟨C', T', N', t', hc', hin, -, -⟩ := cf_all ci h0
  rw [hc] at hc'
  cases hc'
  exact va_get (v := cv ad v) hx hb hts hin hown hK hP k (wr_at hk) hc j hj (hts _ hlk) (fun _ h => h) (by rw [fv_get, Nat.zero_add]; exact hv ad) hd h1
theorem g_getI {i ci j k : Nat} {d : String} {fs : List (Option Nat)} (hd : decode Γ.2.1.2.1 pc = .ok (.getfield i, 3)) (hf : FL Γ.2.1.1.cls i ci j d) (hk : Γ.1[k]? = some (.inr (ci, fs))) (hj : fs[j]? = some none) (kk : G Γ X σ L (.int (σ k j) :: st) (pc + 3)) : G Γ X σ L (.ref k :: st) pc :=
  g_get hd hf hk (fun ad => by rw [hj]; rfl) kk
theorem g_getR {i ci j k r : Nat} {d : String} {fs : List (Option Nat)} (hd : decode Γ.2.1.2.1 pc = .ok (.getfield i, 3)) (hf : FL Γ.2.1.1.cls i ci j d) (hk : Γ.1[k]? = some (.inr (ci, fs))) (hj : fs[j]? = some (some r)) (kk : G Γ X σ L (.ref r :: st) (pc + 3)) : G Γ X σ L (.ref k :: st) pc :=
  g_get hd hf hk (fun ad => by rw [hj]; rfl) kk
theorem g_put {i ci j k : Nat} {d : String} {ty : FieldType} {fs : List (Option Nat)} {v : Int32} (hd : decode Γ.2.1.2.1 pc = .ok (.putfield i, 3)) (hf : FLp Γ.2.1.1.cls i ci j d) (hty : parseFieldDescriptor d = some ty) (hn : narrow ty (.int v) = .int v) (hfit : fits ty (.int v) = true) (hk : Γ.1[k]? = some (.inr (ci, fs))) (hj : fs[j]? = some none) (kk : G Γ X (s_up σ k j v) L st (pc + 3)) : G Γ X σ L (.int v :: .ref k :: st) pc := by
  obtain ⟨⟨p, l, e, R⟩, ⟨s, m, args, below⟩, ⟨meth, c, Q⟩, ⟨dC, dI, cI, cB⟩, ⟨ad, A, cells, slots⟩⟩ := X
  intro ok H locs ls hP hS hl
  have h1 := fun H locs hP hS => kk ok H locs ls hP hS hl
  obtain ⟨hx, hb, hm, hown, hts, hK, hAp, hA, -⟩ := ok
  obtain ⟨h0, C, T, N, hc, hjN, hlk, hdd, hfin⟩ := hf
  obtain ⟨C', T', N', t', hc', hin, hts2, hnm⟩ := cf_all ci h0
  rw [hc] at hc'
  cases hc'
  have hlen : j < (fv ad (σ k) 0 fs).length := by rw [fv_len]; exact (List.getElem?_eq_some_iff.mp hj).1
  refine va_put (v := .int v) (ty := ty) hx hb hts hin t' hts2 hnm hown hK hP (wr_D hAp hA) hS k (wr_at hk) hc j hjN (hts _ hlk) (fun _ h => h) hfin (by rw [hdd]; exact hty) hn hfit hlen hd (fun H1 locs1 hP1 _ hS1 => h1 H1 locs1 ?_ hS1)
  rw [fv_set ad (σ k) fs v hj] at hP1
  have e1 := wr_set (cI := cI) (cB := cB) (ad := ad) (σ := σ) (upd (σ k) j v) hk
  rw [← s_row_up, ← e1]
  exact hP1
theorem g_putI {i ci j k : Nat} {fs : List (Option Nat)} {v : Int32} (hd : decode Γ.2.1.2.1 pc = .ok (.putfield i, 3)) (hf : FLp Γ.2.1.1.cls i ci j "I") (hk : Γ.1[k]? = some (.inr (ci, fs))) (hj : fs[j]? = some none) (kk : G Γ X (s_up σ k j v) L st (pc + 3)) : G Γ X σ L (.int v :: .ref k :: st) pc :=
  g_put hd hf (ty := .int) (by decide +kernel) rfl rfl hk hj kk
theorem g_putZ {i ci j k : Nat} {fs : List (Option Nat)} {v : Int32} (hd : decode Γ.2.1.2.1 pc = .ok (.putfield i, 3)) (hf : FLp Γ.2.1.1.cls i ci j "Z") (hk : Γ.1[k]? = some (.inr (ci, fs))) (hj : fs[j]? = some none) (hv : v = 0 ∨ v = 1) (kk : G Γ X (s_up σ k j v) L st (pc + 3)) : G Γ X σ L (.int v :: .ref k :: st) pc := by
  rcases hv with rfl | rfl
  · exact g_put hd hf (ty := .boolean) (by decide +kernel) (by decide +kernel) (by decide +kernel) hk hj kk
  · exact g_put hd hf (ty := .boolean) (by decide +kernel) (by decide +kernel) (by decide +kernel) hk hj kk
theorem cl_of {i : Int32} {a n : Nat} (h : i = nI a) (ha : a < n) (hn : n < 2 ^ 31) : vp_in i n ∧ i.toNatClampNeg = a := by
  subst h
  exact ⟨vp_in_nI ha hn, nI_clamp (by omega)⟩
theorem g_iaload {k n a : Nat} {i : Int32} (hd : decode Γ.2.1.2.1 pc = .ok (.iaload, 1)) (hk : Γ.1[k]? = some (.inl (false, n))) (hi : i = nI a) (ha : a < n) (hn : n < 2 ^ 31) (kk : G Γ X σ L (.int (σ k a) :: st) (pc + 1)) : G Γ X σ L (.int i :: .ref k :: st) pc := by
  obtain ⟨⟨p, l, e, R⟩, ⟨s, m, args, below⟩, ⟨meth, c, Q⟩, ⟨dC, dI, cI, cB⟩, ⟨ad, A, cells, slots⟩⟩ := X
  intro ok H locs ls hP hS hl
  have h1 := kk ok H locs ls hP hS hl
  obtain ⟨hx, hb, hm, hown, hts, hK, -⟩ := ok
  obtain ⟨h2, h3⟩ := cl_of hi ha hn
  refine va_iald (f := σ k) (n := n) (cA := cI) hx hb hK hP k 0 (wr_at hk) rfl h2 hd ?_
  rw [h3]; exact h1
theorem g_baload {k n a : Nat} {i : Int32} (hd : decode Γ.2.1.2.1 pc = .ok (.baload, 1)) (hk : Γ.1[k]? = some (.inl (true, n))) (hi : i = nI a) (ha : a < n) (hn : n < 2 ^ 31) (kk : G Γ X σ L (.int (σ k a) :: st) (pc + 1)) : G Γ X σ L (.int i :: .ref k :: st) pc := by
  obtain ⟨⟨p, l, e, R⟩, ⟨s, m, args, below⟩, ⟨meth, c, Q⟩, ⟨dC, dI, cI, cB⟩, ⟨ad, A, cells, slots⟩⟩ := X
  intro ok H locs ls hP hS hl
  have h1 := kk ok H locs ls hP hS hl
  obtain ⟨hx, hb, hm, hown, hts, hK, -⟩ := ok
  obtain ⟨h2, h3⟩ := cl_of hi ha hn
  refine va_bald (f := σ k) (n := n) (cA := cB) hx hb hK hP k 1 (wr_at hk) rfl h2 hd ?_
  rw [h3]; exact h1
theorem g_iastore {k n a : Nat} {i v : Int32} (hd : decode Γ.2.1.2.1 pc = .ok (.iastore, 1)) (hk : Γ.1[k]? = some (.inl (false, n))) (hi : i = nI a) (ha : a < n) (hn : n < 2 ^ 31) (kk : G Γ X (s_up σ k a v) L st (pc + 1)) : G Γ X σ L (.int v :: .int i :: .ref k :: st) pc := by
  obtain ⟨⟨p, l, e, R⟩, ⟨s, m, args, below⟩, ⟨meth, c, Q⟩, ⟨dC, dI, cI, cB⟩, ⟨ad, A, cells, slots⟩⟩ := X
  intro ok H locs ls hP hS hl
  have h1 := fun H locs hP hS => kk ok H locs ls hP hS hl
  obtain ⟨hx, hb, hm, hown, hts, hK, hAp, hA, -⟩ := ok
  obtain ⟨h2, h3⟩ := cl_of hi ha hn
  refine va_iast (f := σ k) (n := n) (cA := cI) (x := v) hx hb hK hP (wr_D hAp hA) hS k 0 (wr_at hk) rfl h2 hd (fun H1 locs1 hP1 _ hS1 => h1 H1 locs1 ?_ hS1)
  rw [h3] at hP1
  have e1 := wr_set (cI := cI) (cB := cB) (ad := ad) (σ := σ) (upd (σ k) a v) hk
  rw [← s_row_up, ← e1]
  exact hP1
theorem g_bastore {k n a : Nat} {i v : Int32} (hd : decode Γ.2.1.2.1 pc = .ok (.bastore, 1)) (hk : Γ.1[k]? = some (.inl (true, n))) (hi : i = nI a) (ha : a < n) (hn : n < 2 ^ 31) (kk : G Γ X (s_up σ k a v.toInt8.toInt32) L st (pc + 1)) : G Γ X σ L (.int v :: .int i :: .ref k :: st) pc := by
  obtain ⟨⟨p, l, e, R⟩, ⟨s, m, args, below⟩, ⟨meth, c, Q⟩, ⟨dC, dI, cI, cB⟩, ⟨ad, A, cells, slots⟩⟩ := X
  intro ok H locs ls hP hS hl
  have h1 := fun H locs hP hS => kk ok H locs ls hP hS hl
  obtain ⟨hx, hb, hm, hown, hts, hK, hAp, hA, -⟩ := ok
  obtain ⟨h2, h3⟩ := cl_of hi ha hn
  refine va_bast (f := σ k) (n := n) (cA := cB) (x := v) hx hb hK hP (wr_D hAp hA) hS k 1 (wr_at hk) rfl h2 hd (fun H1 locs1 hP1 _ hS1 => h1 H1 locs1 ?_ hS1)
  rw [h3, vp_nar_byte] at hP1
  have e1 := wr_set (cI := cI) (cB := cB) (ad := ad) (σ := σ) (upd (σ k) a v.toInt8.toInt32) hk
  rw [← s_row_up, ← e1]
  exact hP1
theorem g_alen {k n : Nat} {b : Bool} (hd : decode Γ.2.1.2.1 pc = .ok (.arraylength, 1)) (hk : Γ.1[k]? = some (.inl (b, n))) (kk : G Γ X σ L (.int (nI n) :: st) (pc + 1)) : G Γ X σ L (.ref k :: st) pc := by
  obtain ⟨⟨p, l, e, R⟩, ⟨s, m, args, below⟩, ⟨meth, c, Q⟩, ⟨dC, dI, cI, cB⟩, ⟨ad, A, cells, slots⟩⟩ := X
  intro ok H locs ls hP hS hl
  have h1 := kk ok H locs ls hP hS hl
  obtain ⟨hx, hb, hm, hown, hts, hK, -⟩ := ok
  cases b with
  | false => exact va_alen (x := (n, .inl (σ k))) hx hb hK hP k 0 (wr_at hk) rfl rfl hd h1
  | true => exact va_alen (x := (n, .inl (σ k))) hx hb hK hP k 1 (wr_at hk) rfl rfl hd h1
/-- a static array that nobody writes, by its own type's link -/
theorem g_gets {i j : Nat} (hd : decode Γ.2.1.2.1 pc = .ok (.getstatic i, 3)) (hj : j < 4) (hlk : Cond.fieldLink Γ.2.1.1.cls i (roC j).1 (roC j).2 "[I" ∈ tb) (kk : G Γ X σ L (.ref (900 + j) :: st) (pc + 3)) : G Γ X σ L st pc := by
  obtain ⟨⟨p, l, e, R⟩, ⟨s, m, args, below⟩, ⟨meth, c, Q⟩, ⟨dC, dI, cI, cB⟩, ⟨ad, A, cells, slots⟩⟩ := X
  intro ok H locs ls hP hS hl
  have h1 := kk ok H locs ls hP hS hl
  obtain ⟨hx, hb, hm, hown, hts, hK, hAp, hA, hRO, -⟩ := ok
  exact va_gets hx hb (hRO.1 j hj).1 hS hown (hts _ hlk) (fun _ h => h) hd h1
theorem g_getsN {i j : Nat} (hd : decode Γ.2.1.2.1 pc = .ok (.getstatic i, 3)) (hj : j < 4) (hlk : (Γ.2.1.1.cls, i, j) = ("LateSeekers$Park", 43, 0) ∨ (Γ.2.1.1.cls, i, j) = ("LateSeekers$TapeReader", 91, 1)) (kk : G Γ X σ L (.ref (900 + j) :: st) (pc + 3)) : G Γ X σ L st pc := by
  obtain ⟨⟨p, l, e, R⟩, ⟨s, m, args, below⟩, ⟨meth, c, Q⟩, ⟨dC, dI, cI, cB⟩, ⟨ad, A, cells, slots⟩⟩ := X
  intro ok H locs ls hP hS hl
  have h1 := kk ok H locs ls hP hS hl
  obtain ⟨hx, hb, hm, hown, hts, hK, hAp, hA, hRO, -⟩ := ok
  obtain ⟨r1, -, -, -, -, r6, r7⟩ := hRO
  rcases hlk with h | h
  · obtain ⟨e1, e2, e3⟩ := Prod.mk.inj h |>.imp id Prod.mk.inj
    rw [e1] at hown
    subst e2; subst e3
    exact va_getsN hx hb (r1 0 (by decide)).1 hS hown (va_Nw.use rfl r6) (fun _ h => h) hd h1
  · obtain ⟨e1, e2, e3⟩ := Prod.mk.inj h |>.imp id Prod.mk.inj
    rw [e1] at hown
    subst e2; subst e3
    exact va_getsN hx hb (r1 1 (by decide)).1 hS hown (va_Nw.use rfl r7) (fun _ h => h) hd h1
theorem va_Tld {p : Program} {l : Launch} {e : Env} {R : Room} {s : State} {m : MethodId} {args : Array Value} {below : List Frame} {meth : Method} {c : Code} {H : Heap} {locs : List Loc} {cells slots : Nat} {Q : State → Prop} {cc : ByteArray} {pc : Nat} {ls : Array Slot} {rest : List Value} {A : Nat → Prop} (hx : p.tables.exec = Jvm.exec) (hb : c.code = cc) {t N a : Nat} {f : Nat → Value} (hT : va_T .int t N f A s s.heap) (hS : va_S A s.heap H locs) {i : Int32} (hi : i = nI a) (ha : a < N) (hN : N < 2 ^ 31) (hd : decode cc pc = .ok (.iaload, 1)) (kk : W p l e R s m args below meth c H locs cells slots Q (F0 m (pc + 1) ls (f a :: rest))) : W p l e R s m args below meth c H locs cells slots Q (F0 m pc ls (.int i :: .ref t :: rest)) := by
  obtain ⟨cell, h1, h2, h3, h4, h5, h6, h7⟩ := hT.kept hS.2.1
  obtain ⟨g1, g2⟩ := cl_of hi ha hN
  refine W.iald (v := f a) hx hb h1 h2 h3 (fun q => ?_) (by rw [g2]; exact h6 a ha) rfl rfl hd kk
  rcases q with q | q
  · exact g1 (Or.inl q)
  · rw [g2] at q; omega
theorem g_roload {j a : Nat} {i : Int32} (hd : decode Γ.2.1.2.1 pc = .ok (.iaload, 1)) (hj : j < 4) (hi : i = nI a) (ha : a < (roV j).length) (kk : G Γ X σ L (.int ((roV j).getD a 0) :: st) (pc + 1)) : G Γ X σ L (.int i :: .ref (900 + j) :: st) pc := by
  obtain ⟨⟨p, l, e, R⟩, ⟨s, m, args, below⟩, ⟨meth, c, Q⟩, ⟨dC, dI, cI, cB⟩, ⟨ad, A, cells, slots⟩⟩ := X
  intro ok H locs ls hP hS hl
  have h1 := kk ok H locs ls hP hS hl
  obtain ⟨hx, hb, hm, hown, hts, hK, hAp, hA, hRO, -⟩ := ok
  have hN : (roV j).length < 2 ^ 31 := by
    match j, hj with
    | 0, _ => decide
    | 1, _ => decide
    | 2, _ => decide
    | 3, _ => decide
  exact va_Tld (f := fun i => .int ((roV j).getD i 0)) hx hb (hRO.1 j hj).2 hS hi ha hN hd h1
theorem g_rolen {j : Nat} (hd : decode Γ.2.1.2.1 pc = .ok (.arraylength, 1)) (hj : j < 4) (kk : G Γ X σ L (.int (nI (roV j).length) :: st) (pc + 1)) : G Γ X σ L (.ref (900 + j) :: st) pc := by
  obtain ⟨⟨p, l, e, R⟩, ⟨s, m, args, below⟩, ⟨meth, c, Q⟩, ⟨dC, dI, cI, cB⟩, ⟨ad, A, cells, slots⟩⟩ := X
  intro ok H locs ls hP hS hl
  have h1 := kk ok H locs ls hP hS hl
  obtain ⟨hx, hb, hm, hown, hts, hK, hAp, hA, hRO, -⟩ := ok
  obtain ⟨cell, q1, q2, q3, q4, q5, q6, q7⟩ := (hRO.1 j hj).2.kept hS.2.1
  exact W.alen (n := nI (roV j).length) hx hb q1 q2 q5 rfl rfl hd h1
/-- System.arraycopy of ints from the places 0 on, between two cells -/
theorem g_copy {i k0 k1 n0 n1 n : Nat} {v : Int32} (hd : decode Γ.2.1.2.1 pc = .ok (.invokestatic i, 3)) (hlk : Cond.methodLink Γ.2.1.1.cls i arraycopyName ∈ tb) (h2 : Cond.native arraycopyName ∈ tb ∧ Cond.static arraycopyName ∈ tb ∧ Cond.initialized "java/lang/System" ∈ tb) (hk0 : Γ.1[k0]? = some (.inl (false, n0))) (hk1 : Γ.1[k1]? = some (.inl (false, n1))) (hv : v = nI n) (hn0 : n ≤ n0) (hn1 : n ≤ n1) (hb31 : n < 2 ^ 31) (hdep : 1 ≤ Γ.2.2) (hst : st = []) (kk : G Γ X (s_row σ k1 (va_cpy (σ k0) (σ k1) 0 0 n)) L st (pc + 3)) : G Γ X σ L (.int v :: .int 0 :: .ref k1 :: .int 0 :: .ref k0 :: st) pc := by
  obtain ⟨⟨p, l, e, R⟩, ⟨s, m, args, below⟩, ⟨meth, c, Q⟩, ⟨dC, dI, cI, cB⟩, ⟨ad, A, cells, slots⟩⟩ := X
  intro ok H locs ls hP hS hl
  have h1 := fun H locs hP hS => kk ok H locs ls hP hS hl
  obtain ⟨hx, hb, hm, hown, hts, hK, hAp, hA, hRO, hfr, hlo, -⟩ := ok
  subst hst
  have hc : v.toNatClampNeg = n := by rw [hv]; exact nI_clamp hb31
  have hz : (0 : Int32).toNatClampNeg = 0 := sb_cl0
  refine va_copyi (ty := .int) hx hb (by rw [hm, hl.1]) hown (hts _ hlk) (hts _ h2.1) (hts _ h2.2.1) (hts _ h2.2.2) hK hP (wr_D hAp hA) hS k0 k1 0 0 (wr_at hk0) (wr_at hk1) rfl rfl rfl (by decide) (by decide) (by rw [hv]; exact nI_pos hb31) (by rw [hc, hz]; omega) (by rw [hc, hz]; omega) (fun _ _ => rfl) (by have := hdep; exact Nat.le_trans this hfr) ?_ hd (fun H1 locs1 hP1 _ hS1 => h1 H1 locs1 ?_ hS1)
  · have e1 : (([] : List Value).map (cv ad)).map (fun v => v.category) = [] := rfl
    rw [e1]
    have e2 : nativeFrameWords "java/lang/System" "arraycopy" 5 + 11 ≤ 40 := by decide +kernel
    have e3 : 40 * 1 ≤ 40 * Γ.2.2 := Nat.mul_le_mul_left 40 hdep
    have e4 : ([] : List Nat).sum = 0 := rfl
    omega
  · rw [hc, hz] at hP1
    have e1 := wr_set (cI := cI) (cB := cB) (ad := ad) (σ := σ) (va_cpy (σ k0) (σ k1) 0 0 n) hk1
    rw [← e1]
    exact hP1
end GM
