/-! CONTRACTS over the store, their ends, their calls, and their embedding into a larger store -/
def rmd (d : Nat) : Room := { frames := d, cells := 0, slots := 0, locals := 40 * d }
def Pw (Λ : Lay) (dC : Nat → ClassId) (dI : Nat → Nat → Nat) (cI cB : ClassId) (ad : Nat → Nat) (σ : Store) (U : State) : Prop :=
  va_P (dC, dI) classes (wr cI cB ad σ 0 Λ) U.heap ∧ va_K (dC, dI) classes (tyl cI cB) U ∧ Ap Λ ad ∧ RO ad (Aw Λ ad) U
def Qw (Λ : Lay) (dC : Nat → ClassId) (dI : Nat → Nat → Nat) (cI cB : ClassId) (ad : Nat → Nat) (Post : Option Value → Store → Prop) : Array Value → State → Outcome → State → Prop := fun _ st oc t =>
  (∃ (v : Option Value) (σ : Store), oc = .returned (v.map (cv ad)) ∧ Post v σ ∧ va_P (dC, dI) classes (wr cI cB ad σ 0 Λ) t.heap) ∧ va_F (Aw Λ ad) st t
abbrev wds (μ : Mt) : List Cond := Cond.code μ.1 μ.2.1 μ.2.2.1 μ.2.2.2 :: tb
/-- the contract: from the store σ, with these arguments, the method returns, and Post holds of its answer and the store -/
def Ct (Λ : Lay) (μ : Mt) (d : Nat) (as : List Value) (σ : Store) (Post : Option Value → Store → Prop) : Prop :=
  ∀ (l : Launch) (dC : Nat → ClassId) (dI : Nat → Nat → Nat) (cI cB : ClassId) (ad : Nat → Nat), Met l μ.1 (wds μ) (rmd d) (va_Pc (as.map (cv ad)) (Pw Λ dC dI cI cB ad σ)) (Qw Λ dC dI cI cB ad Post) 0 0 (Aw Λ ad)
def Rt (Γ : MC) (Post : Option Value → Store → Prop) (X : CX) : Prop := match X with
  | (_, (s, _, args, below), (meth, _, Q), (dC, dI, cI, cB), (ad, A, cells, slots)) =>
    meth.sig.returnType = Γ.2.1.2.2.2 ∧ meth.locks = false ∧ A = Aw Γ.1 ad ∧ cells = 0 ∧ slots = 0 ∧ Q = MQ below (Qw Γ.1 dC dI cI cB ad Post) args s 0 0 (Aw Γ.1 ad)
theorem Ct.of {Λ : Lay} {μ : Mt} {d : Nat} {as : List Value} {σ : Store} {Post : Option Value → Store → Prop} (hy : plainName μ.1.cls = true) (hfit : (lg_sl as).length ≤ μ.2.2.1) (body : ∀ X, Rt (Λ, μ, d) Post X → G (Λ, μ, d) X σ (ent as μ.2.2.1) [] 0) : Ct Λ μ d as σ Post := by
  intro l dC dI cI cB ad
  refine Met.ofW (cc := μ.2.1) (maxL := μ.2.2.1) (ret := μ.2.2.2) hy rfl ?_
  intro p e s m args below meth c s₁ B hml hv
  obtain ⟨rfl, hP, hK, hAp, hRO⟩ := hv
  have hts := atoms_spec (ws := wds μ) B.pre
  have hown : s.vm.findClass μ.1.cls = some m.cls := findClass_of_methodNamed B.named
  have hlen : (lg_sl (as.map (cv ad))).length ≤ μ.2.2.1 := by
    have : (lg_sl (as.map (cv ad))).length = (lg_sl as).length := by
      unfold lg_sl
      rw [List.length_flatMap, List.length_flatMap, List.map_map]
      congr 1
      apply List.map_congr_left
      intro v _
      show (if (cv ad v).category = 2 then _ else _ : List Slot).length = _
      rw [cv_cat]
      split <;> rfl
    omega
  have hl := lv_entry (as.map (cv ad)) hlen
  rw [lg_entry_eq]
  generalize (lg_sl (as.map (cv ad)) ++ List.replicate (μ.2.2.1 - (lg_sl (as.map (cv ad))).length) Slot.unset).toArray = ls at hl ⊢
  exact body ((p, l, e, (headSpec (wds μ) (rmd d)).room), (s, m, (as.map (cv ad)).toArray, below), (meth, c, MQ below (Qw Λ dC dI cI cB ad Post) (as.map (cv ad)).toArray s 0 0 (Aw Λ ad)), (dC, dI, cI, cB), (ad, Aw Λ ad, 0, 0))
    ⟨B.returns, B.notSynchronized, rfl, rfl, rfl, rfl⟩ ⟨B.exec, B.bytes, hml, hown, fun w hw => hts w (List.mem_cons_of_mem _ hw), hK, hAp, fun k hk => ⟨k, hk, rfl⟩, hRO, Nat.le_refl _, Nat.le_refl _, Nat.zero_le _, Nat.zero_le _⟩ s.heap [] ls hP va_S.rf (lh_ent hl)
section GR
variable {Γ : MC} {X : CX} {σ : Store} {L L' : List (Option Value)} {st : List Value} {pc : Nat} {Post : Option Value → Store → Prop}
theorem g_vret (hR : Rt Γ Post X) (hd : decode Γ.2.1.2.1 pc = .ok (.return_, 1)) (hr : Γ.2.1.2.2.2 = none) (hp : Post none σ) : G Γ X σ L [] pc := by
  obtain ⟨⟨p, l, e, R⟩, ⟨s, m, args, below⟩, ⟨meth, c, Q⟩, ⟨dC, dI, cI, cB⟩, ⟨ad, A, cells, slots⟩⟩ := X
  obtain ⟨hr2, hlk, hA, hc0, hs0, hQ⟩ := hR
  intro ok H locs ls hP hS hl
  obtain ⟨hx, hb, hm, hown, hts, hK, -⟩ := ok
  subst hA; subst hc0; subst hs0; subst hQ
  exact W.vret hx hb (hr2.trans hr) (fun t ht hW => ⟨⟨none, σ, rfl, hp, by rw [ht]; exact hP⟩, hS.F ht⟩) hS.2.2 hd hlk
theorem g_iret {v : Int32} (hR : Rt Γ Post X) (hd : decode Γ.2.1.2.1 pc = .ok (.ireturn, 1)) (hr : Γ.2.1.2.2.2 = some .int) (hp : Post (some (.int v)) σ) : G Γ X σ L [.int v] pc := by
  obtain ⟨⟨p, l, e, R⟩, ⟨s, m, args, below⟩, ⟨meth, c, Q⟩, ⟨dC, dI, cI, cB⟩, ⟨ad, A, cells, slots⟩⟩ := X
  obtain ⟨hr2, hlk, hA, hc0, hs0, hQ⟩ := hR
  intro ok H locs ls hP hS hl
  obtain ⟨hx, hb, hm, hown, hts, hK, -⟩ := ok
  subst hA; subst hc0; subst hs0; subst hQ
  exact W.iret (v := v) hx hb (hr2.trans hr) (fun t ht hW => ⟨⟨some (.int v), σ, rfl, hp, by rw [ht]; exact hP⟩, hS.F ht⟩) hS.2.2 hd hlk
theorem g_lret {v : Int64} (hR : Rt Γ Post X) (hd : decode Γ.2.1.2.1 pc = .ok (.lreturn, 1)) (hr : Γ.2.1.2.2.2 = some .long) (hp : Post (some (.long v)) σ) : G Γ X σ L [.long v] pc := by
  obtain ⟨⟨p, l, e, R⟩, ⟨s, m, args, below⟩, ⟨meth, c, Q⟩, ⟨dC, dI, cI, cB⟩, ⟨ad, A, cells, slots⟩⟩ := X
  obtain ⟨hr2, hlk, hA, hc0, hs0, hQ⟩ := hR
  intro ok H locs ls hP hS hl
  obtain ⟨hx, hb, hm, hown, hts, hK, -⟩ := ok
  subst hA; subst hc0; subst hs0; subst hQ
  exact W.lret (v := v) hx hb (hr2.trans hr) (fun t ht hW => ⟨⟨some (.long v), σ, rfl, hp, by rw [ht]; exact hP⟩, hS.F ht⟩) hS.2.2 hd hlk
/-- an answer of a narrower type -/
theorem g_nret {v : Int32} {ty : FieldType} (hR : Rt Γ Post X) (hd : decode Γ.2.1.2.1 pc = .ok (.ireturn, 1)) (hr : Γ.2.1.2.2.2 = some ty) (hn : narrow ty (.int v) = .int v) (hp : Post (some (.int v)) σ) : G Γ X σ L [.int v] pc := by
  obtain ⟨⟨p, l, e, R⟩, ⟨s, m, args, below⟩, ⟨meth, c, Q⟩, ⟨dC, dI, cI, cB⟩, ⟨ad, A, cells, slots⟩⟩ := X
  obtain ⟨hr2, hlk, hA, hc0, hs0, hQ⟩ := hR
  intro ok H locs ls hP hS hl
  obtain ⟨hx, hb, hm, hown, hts, hK, -⟩ := ok
  subst hA; subst hc0; subst hs0; subst hQ
  exact W.zret (v := v) hx hb (hr2.trans hr) hn (fun t ht hW => ⟨⟨some (.int v), σ, rfl, hp, by rw [ht]; exact hP⟩, hS.F ht⟩) hS.2.2 hd hlk
theorem g_zret {v : Int32} (hR : Rt Γ Post X) (hd : decode Γ.2.1.2.1 pc = .ok (.ireturn, 1)) (hr : Γ.2.1.2.2.2 = some .boolean) (hv : v = 0 ∨ v = 1) (hp : Post (some (.int v)) σ) : G Γ X σ L [.int v] pc :=
  g_nret hR hd hr (by rcases hv with rfl | rfl <;> decide +kernel) hp
theorem g_aret {k : Nat} {C : String} (hR : Rt Γ Post X) (hd : decode Γ.2.1.2.1 pc = .ok (.areturn, 1)) (hr : Γ.2.1.2.2.2 = some (.object C)) (hp : Post (some (.ref k)) σ) : G Γ X σ L [.ref k] pc := by
  obtain ⟨⟨p, l, e, R⟩, ⟨s, m, args, below⟩, ⟨meth, c, Q⟩, ⟨dC, dI, cI, cB⟩, ⟨ad, A, cells, slots⟩⟩ := X
  obtain ⟨hr2, hlk, hA, hc0, hs0, hQ⟩ := hR
  intro ok H locs ls hP hS hl
  obtain ⟨hx, hb, hm, hown, hts, hK, -⟩ := ok
  subst hA; subst hc0; subst hs0; subst hQ
  exact W.aret (v := .ref (ad k)) hx hb (hr2.trans hr) (Or.inl ⟨C, rfl⟩) (Or.inr ⟨_, rfl⟩) (fun t ht hW => ⟨⟨some (.ref k), σ, rfl, hp, by rw [ht]; exact hP⟩, hS.F ht⟩) hS.2.2 hd hlk
end GR
/-- entry i of own's pool is method ν: of objects, or static; with n parameters -/
def LkV (own : String) (i : Nat) (ν : Mt) (n : Nat) : Prop := Cond.methodLink own i ν.1 ∈ tb ∧ Cond.instanceMethod ν.1 ∈ tb ∧ Cond.selects ν.1.cls ν.1 ν.1 ∈ tb ∧ Cond.initialized ν.1.cls ∈ tb ∧ Cond.code ν.1 ν.2.1 ν.2.2.1 ν.2.2.2 ∈ tb ∧ (ν.1.cls ≠ "java/lang/invoke/MethodHandle" ∧ ν.1.cls ≠ "java/lang/invoke/VarHandle" ∧ (parseMethodDescriptor ν.1.desc).map (fun d => d.parameters.length) = some n) ∧ ν.2.2.1 ≤ 20
def LkS (own : String) (i : Nat) (ν : Mt) (n : Nat) : Prop := Cond.methodLink own i ν.1 ∈ tb ∧ Cond.static ν.1 ∈ tb ∧ Cond.initialized ν.1.cls ∈ tb ∧ Cond.code ν.1 ν.2.1 ν.2.2.1 ν.2.2.2 ∈ tb ∧ (ν.1.cls ≠ "java/lang/invoke/MethodHandle" ∧ ν.1.cls ≠ "java/lang/invoke/VarHandle" ∧ (parseMethodDescriptor ν.1.desc).map (fun d => d.parameters.length) = some n) ∧ ν.2.2.1 ≤ 20
theorem good_tb {ν : Mt} (h : Cond.code ν.1 ν.2.1 ν.2.2.1 ν.2.2.2 ∈ tb) : GoodIn tb (wds ν) := by
  intro w hw
  have hm : w ∈ tb := by
    rcases List.mem_cons.mp hw with e | e
    · rw [e]; exact h
    · exact e
  exact ⟨hm, good_of_word (List.mem_filter.mp hm).2⟩
section GC
variable {Γ : MC} {X : CX} {σ : Store} {L L' : List (Option Value)} {st : List Value} {pc : Nat} {Post : Option Value → Store → Prop}
theorem Pw_blind {Λ : Lay} {dC : Nat → ClassId} {dI : Nat → Nat → Nat} {cI cB : ClassId} {ad : Nat → Nat} {av : List Value} : FrameBlind (va_Pc av (Pw Λ dC dI cI cB ad σ)) := by
  intro a U g mk h
  obtain ⟨h0, h1, h2, h3, h4⟩ := h
  exact ⟨h0, h1, va_K.moved (u := U) (U := U.calling g mk a) (Vm.Alike.refl U.vm) h2, h3, h4.calling g mk a⟩
theorem Pw_at {Λ : Lay} {dC : Nat → ClassId} {dI : Nat → Nat → Nat} {cI cB : ClassId} {ad : Nat → Nat} {A : Nat → Prop} {s U : State} {H : Heap} {locs : List Loc} (hP : va_P (dC, dI) classes (wr cI cB ad σ 0 Λ) H) (hS : va_S A s.heap H locs) (hK : va_K (dC, dI) classes (tyl cI cB) s) (hAp : Ap Λ ad) (hA : ∀ k, k < Λ.length → A (ad k)) (hRO : RO ad A s) (hU : U.heap = H) (hW : s.WarmedH U.vm) : Pw Λ dC dI cI cB ad σ U :=
  ⟨by rw [hU]; exact hP, va_K.moved hW.alike hK, hAp, hRO.later hS hU hW (fun q ⟨k, h1, h2⟩ => by rw [h2]; exact hA k h1)⟩
theorem g_run {p : Program} {l : Launch} {e : Env} {R : Room} {s : State} {m : MethodId} {args : Array Value} {below : List Frame} {meth : Method} {c : Code} {Q : State → Prop} {dC : Nat → ClassId} {dI : Nat → Nat → Nat} {cI cB : ClassId} {ad : Nat → Nat} {A : Nat → Prop} {cells slots : Nat} {H : Heap} {locs : List Loc} {ls : Array Slot} {st0 rest : List Value} {a : Array Value}
    (hr : va_Run p l e R s m args below meth c H locs cells slots 0 0 (F0 m pc ls st0) (rest.map (cv ad)) (Qw Γ.1 dC dI cI cB ad Post a) (Aw Γ.1 ad)) (hS : va_S A s.heap H locs) (hA : ∀ k, k < Γ.1.length → A (ad k)) (kk : ∀ (v : Option Value) (σ' : Store) (H1 : Heap) (locs1 : List Loc), Post v σ' → va_P (dC, dI) classes (wr cI cB ad σ' 0 Γ.1) H1 → va_S A s.heap H1 locs1 → W p l e R s m args below meth c H1 locs1 cells slots Q (F0 m (pc + 3) ls ((v.toList ++ rest).map (cv ad)))) : W p l e R s m args below meth c H locs cells slots Q (F0 m pc ls st0) := by
  have hA' : ∀ q, Aw Γ.1 ad q → A q := fun q ⟨k, h1, h2⟩ => by rw [h2]; exact hA k h1
  intro T hT Y
  obtain ⟨v, st₀, t, T', L, h0, Y', hL, e1, e2, ⟨⟨w, σ', hv, hp, hP1⟩, hz, hk⟩, go⟩ := hr T hT Y
  have hv' : v = w.map (cv ad) := Outcome.returned.inj hv
  subst hv'
  rw [h0] at hz hk
  obtain ⟨t2, a1, b1⟩ := kk w σ' T'.heap (locs ++ L) hp (by rw [e1]; exact hP1)
    ⟨Nat.le_trans hS.1 (by rw [e1]; exact hz), fun q h1 h2 => by rw [e1, hk q (Nat.lt_of_lt_of_le h1 hS.1) (fun z => h2 (hA' q z))]; exact hS.2.1 q h1 h2, fun q hq => by
      rcases List.mem_append.mp hq with h | h
      · exact hS.2.2 q h
      · exact hA' _ (hL q h)⟩ T' rfl Y'
  refine ⟨t2, go t2 ?_, b1⟩
  have e3 : (w.toList ++ rest).map (cv ad) = (w.map (cv ad)).toList ++ rest.map (cv ad) := by cases w <;> simp
  rw [e3] at a1
  exact a1
theorem room_cv {m : MethodId} {pc : Nat} {ls : Array Slot} {stk rest : List Value} (ad : Nat → Nat) (h : (rest.map (fun v => v.category)).sum ≤ 8) : 2 * (F0 m pc ls stk).monitorRoom + ((rest.map (cv ad)).map fun v => v.category).sum ≤ 8 := by
  have e1 : (fun v : Value => v.category) ∘ cv ad = fun v => v.category := by
    funext v
    exact cv_cat ad v
  rw [List.map_map, e1]
  show 2 * 0 + _ ≤ 8
  omega
theorem g_callV {i k ci n d : Nat} {ν : Mt} {As rest : List Value} {fs : List (Option Nat)} {T : u_T} {N : Nat} (hd : decode Γ.2.1.2.1 pc = .ok (.invokevirtual i, 3)) (hlk : LkV Γ.2.1.1.cls i ν n) (hn : As.length = n) (hst : st = As.reverse ++ .ref k :: rest) (hk : Γ.1[k]? = some (.inr (ci, fs))) (hci : classes[ci]? = some (ν.1.cls, T, N)) (hroom : (rest.map (fun v => v.category)).sum ≤ 8) (hdep : d < Γ.2.2) (hC : Ct Γ.1 ν d (.ref k :: As) σ Post) (kk : ∀ (v : Option Value) (σ' : Store), Post v σ' → G Γ X σ' L (v.toList ++ rest) (pc + 3)) : G Γ X σ L st pc := by
  obtain ⟨⟨p, l, e, R⟩, ⟨s, m, args, below⟩, ⟨meth, c, Q⟩, ⟨dC, dI, cI, cB⟩, ⟨ad, A, cells, slots⟩⟩ := X
  intro ok H locs ls hP hS hl
  have h1 := fun v σ' H locs hp hP hS => kk v σ' hp ok H locs ls hP hS hl
  obtain ⟨hx, hb, hm, hown, hts, hK, hAp, hA, hRO, hfr, hlo, hce, hsl⟩ := ok
  obtain ⟨l1, l2, l3, l4, l5, l6, l7⟩ := hlk
  subst hst
  have cw : CallW R s args Γ.2.1.1.cls ν.1.cls i ν.1 ν.2.1 ν.2.2.1 ν.2.2.2 (wds ν) (rmd d) 0 0 n :=
    ⟨callB_of n hts (good_tb l5) rfl rfl rfl (hts _ l4) (hts _ l1) l6 ⟨by show d + 1 ≤ _; omega, by show 8 + (ν.2.2.1 + 11) + 40 * d ≤ _; omega⟩, hts _ l2, hts _ l3⟩
  have hst2 : (As.reverse ++ .ref k :: rest).map (cv ad) = (As.map (cv ad)).reverse ++ .ref (ad k) :: rest.map (cv ad) := by simp [cv]
  have hrm := room_cv (m := m) (pc := pc) (ls := ls) (stk := (As.reverse ++ .ref k :: rest).map (cv ad)) ad hroom
  have hrun := va_runV (p := p) (e := e) (below := below) (meth := meth) (locs := locs) (cells := cells) (slots := slots) (nL := Γ.2.1.2.2.1) (g := F0 m pc ls ((As.reverse ++ .ref k :: rest).map (cv ad))) (As := As.map (cv ad)) (rest := rest.map (cv ad)) (b := ad k) ⟨hx, hb, hm, hown, hts⟩ (hC l dC dI cI cB ad) cw ⟨Pw_blind, va_recv hK hP hci (wr_at hk), fun U hU hW => ⟨rfl, Pw_at hP hS hK hAp hA hRO hU hW⟩⟩ rfl (by rw [List.length_map]; exact hn) hl.1 hst2 hrm hd ⟨hce, hsl⟩
  exact g_run (Γ := Γ) (A := A) (rest := rest) hrun hS hA (fun v σ' H1 locs1 hp hP1 hS1 => h1 v σ' H1 locs1 hp hP1 hS1)
theorem g_callS {i n d : Nat} {ν : Mt} {As rest : List Value} (hd : decode Γ.2.1.2.1 pc = .ok (.invokestatic i, 3)) (hlk : LkS Γ.2.1.1.cls i ν n) (hn : As.length = n) (hst : st = As.reverse ++ rest) (hroom : (rest.map (fun v => v.category)).sum ≤ 8) (hdep : d < Γ.2.2) (hC : Ct Γ.1 ν d As σ Post) (kk : ∀ (v : Option Value) (σ' : Store), Post v σ' → G Γ X σ' L (v.toList ++ rest) (pc + 3)) : G Γ X σ L st pc := by
  obtain ⟨⟨p, l, e, R⟩, ⟨s, m, args, below⟩, ⟨meth, c, Q⟩, ⟨dC, dI, cI, cB⟩, ⟨ad, A, cells, slots⟩⟩ := X
  intro ok H locs ls hP hS hl
  have h1 := fun v σ' H locs hp hP hS => kk v σ' hp ok H locs ls hP hS hl
  obtain ⟨hx, hb, hm, hown, hts, hK, hAp, hA, hRO, hfr, hlo, hce, hsl⟩ := ok
  obtain ⟨l1, l2, l4, l5, l6, l7⟩ := hlk
  subst hst
  have cw : CallB R s args Γ.2.1.1.cls i ν.1 ν.2.1 ν.2.2.1 ν.2.2.2 (wds ν) (rmd d) 0 0 n ∧ (Cond.static ν.1).before args s = true :=
    ⟨callB_of n hts (good_tb l5) rfl rfl rfl (hts _ l4) (hts _ l1) l6 ⟨by show d + 1 ≤ _; omega, by show 8 + (ν.2.2.1 + 11) + 40 * d ≤ _; omega⟩, hts _ l2⟩
  have hst2 : (As.reverse ++ rest).map (cv ad) = (As.map (cv ad)).reverse ++ rest.map (cv ad) := by simp
  have hrm := room_cv (m := m) (pc := pc) (ls := ls) (stk := (As.reverse ++ rest).map (cv ad)) ad hroom
  have hrun := va_runS (p := p) (e := e) (below := below) (meth := meth) (locs := locs) (cells := cells) (slots := slots) (nL := Γ.2.1.2.2.1) (g := F0 m pc ls ((As.reverse ++ rest).map (cv ad))) (As := As.map (cv ad)) (rest := rest.map (cv ad)) ⟨hx, hb, hm, hown, hts⟩ (hC l dC dI cI cB ad) cw ⟨Pw_blind, fun U hU hW => ⟨rfl, Pw_at hP hS hK hAp hA hRO hU hW⟩⟩ rfl (by rw [List.length_map]; exact hn) hl.1 hst2 hrm hd ⟨hce, hsl⟩
  exact g_run (Γ := Γ) (A := A) (rest := rest) hrun hS hA (fun v σ' H1 locs1 hp hP1 hS1 => h1 v σ' H1 locs1 hp hP1 hS1)
end GC
