/-! a contract over a small store serves a larger one that holds its cells: the frame rule -/
theorem Met.conseq {l : Launch} {y : MethodName} {ws : List Cond} {rm : Room} {Pc Pc' : Array Value → State → Prop} {Qc Qc' : Array Value → State → Outcome → State → Prop} {mc ms : Nat} {free free' : Addr → Prop} (h : Met l y ws rm Pc Qc mc ms free) (hP : ∀ a s, Pc' a s → Pc a s) (hQ : ∀ a s o t, Pc' a s → Qc a s o t → Qc' a s o t) (hF : ∀ q, free q → free' q) : Met l y ws rm Pc' Qc' mc ms free' := by
  intro p e h1 h2 h3 s m args below hf happ hp hK
  obtain ⟨n, o, a1, a2, a3, a4, Ls, a5, a6⟩ := h p e h1 h2 h3 s m args below hf happ (hP _ _ hp) hK
  exact ⟨n, o, a1, a2, a3, hQ _ _ _ _ hp a4, Ls, a5, fun q hq => hF _ (a6 q hq)⟩
theorem Ct.post {Λ : Lay} {μ : Mt} {d : Nat} {as : List Value} {σ : Store} {P P' : Option Value → Store → Prop} (h : Ct Λ μ d as σ P) (hp : ∀ v σ', P v σ' → P' v σ') : Ct Λ μ d as σ P' := by
  intro l dC dI cI cB ad
  refine Met.conseq (h l dC dI cI cB ad) (fun _ _ h => h) ?_ (fun _ h => h)
  rintro a s o t _ ⟨⟨v, σ', h1, h2, h3⟩, h4⟩
  exact ⟨⟨v, σ', h1, hp v σ' h2, h3⟩, h4⟩
theorem RO.narrow {ad : Nat → Nat} {A B : Nat → Prop} {U : State} (h : RO ad A U) (hB : ∀ q, B q → A q) : RO ad B U := by
  obtain ⟨h1, h2, h3, h4, h5, h6, h7⟩ := h
  refine ⟨fun j hj => ⟨(h1 j hj).1.narrow hB, (h1 j hj).2.narrow hB⟩, h2.narrow hB, h3, h4.narrow hB, ?_, h6, h7⟩
  rcases h5 with h | h
  · exact Or.inl (h.narrow hB)
  · exact Or.inr (h.narrow hB)
/-- the number in the larger store -/
def io (is : List Nat) (k : Nat) : Nat := is.getD k k
def re (is : List Nat) : Value → Value
  | .ref k => .ref (io is k)
  | v => v
def reS (is : List Nat) : Shape → Shape
  | .inl q => .inl q
  | .inr (ci, fs) => .inr (ci, fs.map (fun o => o.map (io is)))
def sub (is : List Nat) (σ : Store) : Store := fun k => σ (io is k)
def pos (is : List Nat) : Nat → Nat → Option Nat := match is with
  | [] => fun _ _ => none
  | a :: r => fun j k => if a = k then some j else pos r (j + 1) k
def over (σ : Store) (is : List Nat) (τ : Store) : Store := fun k => match pos is 0 k with
  | some j => τ j
  | none => σ k
def embB (Λ1 Λ2 : Lay) (is : List Nat) : Bool := decide (is.length = Λ1.length) && decide (is.length ≤ 900) && decide is.Nodup && (List.range Λ1.length).all (fun k => decide (Λ2[io is k]? = Λ1[k]?.map (reS is)))
theorem pos_some : ∀ (is : List Nat) (j0 k j : Nat), pos is j0 k = some j → j0 ≤ j ∧ is[j - j0]? = some k := by
  intro is
  induction is with
  | nil => intro j0 k j h; cases h
  | cons a r ih =>
    intro j0 k j h
    have h' : (if a = k then some j0 else pos r (j0 + 1) k) = some j := h
    by_cases e : a = k
    · rw [if_pos e] at h'
      cases h'
      refine ⟨Nat.le_refl _, ?_⟩
      rw [Nat.sub_self, e]; rfl
    · rw [if_neg e] at h'
      obtain ⟨h1, h2⟩ := ih _ _ _ h'
      refine ⟨by omega, ?_⟩
      rw [show j - j0 = (j - (j0 + 1)) + 1 by omega]
      exact h2
theorem pos_none : ∀ (is : List Nat) (j0 k : Nat), pos is j0 k = none → k ∉ is := by
  intro is
  induction is with
  | nil => intro j0 k h; exact List.not_mem_nil
  | cons a r ih =>
    intro j0 k h
    have h' : (if a = k then some j0 else pos r (j0 + 1) k) = none := h
    by_cases e : a = k
    · rw [if_pos e] at h'; cases h'
    · rw [if_neg e] at h'
      intro hm
      rcases List.mem_cons.mp hm with q | q
      · exact e q.symm
      · exact ih _ _ h' q
theorem fv_re (is : List Nat) (ad : Nat → Nat) (v : Nat → Int32) : ∀ (fs : List (Option Nat)) (j : Nat), fv ad v j (fs.map (fun o => o.map (io is))) = fv (fun k => ad (io is k)) v j fs := by
  intro fs
  induction fs with
  | nil => intro j; rfl
  | cons f r ih => intro j; cases f <;> simp [fv, ih]
theorem ce_re (is : List Nat) (cI cB : ClassId) (ad : Nat → Nat) (v : Nat → Int32) (sh : Shape) : ce cI cB ad v (reS is sh) = ce cI cB (fun k => ad (io is k)) v sh := by
  rcases sh with ⟨b, n⟩ | ⟨ci, fs⟩
  · rfl
  · simp [reS, ce, fv_re]
theorem cv_re (is : List Nat) (ad : Nat → Nat) (v : Value) : cv ad (re is v) = cv (fun k => ad (io is k)) v := by cases v <;> rfl
theorem io_at {is : List Nat} {k : Nat} (h : k < is.length) : is[k]? = some (io is k) := by
  unfold io
  rw [List.getD_eq_getElem?_getD, List.getElem?_eq_getElem h]; rfl
theorem Ct.emb {Λ1 Λ2 : Lay} {μ : Mt} {d : Nat} {as : List Value} {σ : Store} {Post : Option Value → Store → Prop} (is : List Nat) (hE : embB Λ1 Λ2 is = true) (h : Ct Λ1 μ d as (sub is σ) Post) : Ct Λ2 μ d (as.map (re is)) σ (fun v σ' => ∃ (w : Option Value) (τ : Store), Post w τ ∧ v = w.map (re is) ∧ σ' = over σ is τ) := by
  simp only [embB, Bool.and_eq_true, decide_eq_true_eq, List.all_eq_true, List.mem_range] at hE
  obtain ⟨⟨⟨hlen, h900⟩, hnd⟩, hall⟩ := hE
  have hsh : ∀ (k : Nat) (sh : Shape), Λ1[k]? = some sh → Λ2[io is k]? = some (reS is sh) := by
    intro k sh hk
    have hl : k < Λ1.length := (List.getElem?_eq_some_iff.mp hk).1
    rw [hall k hl, hk]; rfl
  have hin : ∀ k, k < Λ1.length → io is k < Λ2.length := by
    intro k hk
    have := hsh k _ (List.getElem?_eq_getElem hk)
    exact (List.getElem?_eq_some_iff.mp this).1
  have hinj : ∀ i j, i < Λ1.length → j < Λ1.length → io is i = io is j → i = j := by
    intro i j hi hj e
    have h1 := io_at (is := is) (k := i) (by omega)
    have h2 := io_at (is := is) (k := j) (by omega)
    rw [e] at h1
    exact (List.getElem?_inj (i := i) (by omega) hnd).mp (h1.trans h2.symm)
  intro l dC dI cI cB ad
  have hA : ∀ q, Aw Λ1 (fun k => ad (io is k)) q → Aw Λ2 ad q := fun q ⟨k, h1, h2⟩ => ⟨io is k, hin k h1, h2⟩
  refine Met.conseq (h l dC dI cI cB (fun k => ad (io is k))) ?_ ?_ hA
  · rintro a s ⟨ha, hP, hK, hAp, hRO⟩
    refine ⟨?_, ?_, hK, fun i j hi hj e => hinj i j hi hj (hAp _ _ (hin i hi) (hin j hj) e), (hRO.narrow hA).re (fun k hk => ?_)⟩
    · rw [ha, List.map_map]
      congr 1
      apply List.map_congr_left
      intro v _
      exact cv_re is ad v
    · intro k q hq
      rw [wr_get] at hq
      cases hs : Λ1[k]? with
      | none => rw [hs] at hq; cases hq
      | some sh =>
        rw [hs] at hq
        have hq' := Option.some.inj hq
        rw [← hq']
        have h2 := hP (io is k) _ (wr_at (hsh k sh hs))
        rw [ce_re] at h2
        simp only [Nat.zero_add]
        exact h2
    · have : is.length ≤ k := by omega
      show ad (is.getD k k) = ad k
      rw [List.getD_eq_getElem?_getD, List.getElem?_eq_none this]; rfl
  · rintro a s o t ⟨ha, hP, hK, hAp, hRO⟩ ⟨⟨w, τ, h1, h2, h3⟩, hz, hk⟩
    refine ⟨⟨w.map (re is), over σ is τ, ?_, ⟨w, τ, h2, rfl, rfl⟩, ?_⟩, hz, fun q h1 h2 => hk q h1 (fun z => h2 (hA q z))⟩
    · rw [h1, Option.map_map]
      congr 2
      funext v
      exact (cv_re is ad v).symm
    · intro k q hq
      rw [wr_get] at hq
      cases hs : Λ2[k]? with
      | none => rw [hs] at hq; cases hq
      | some sh =>
        rw [hs] at hq
        have hq' := Option.some.inj hq
        rw [← hq']
        simp only [Nat.zero_add]
        cases hp : pos is 0 k with
        | some j =>
          obtain ⟨-, hj⟩ := pos_some is 0 k j hp
          rw [Nat.sub_zero] at hj
          have hjl : j < is.length := (List.getElem?_eq_some_iff.mp hj).1
          have hio : io is j = k := by
            have := io_at hjl
            rw [hj] at this
            exact (Option.some.inj this).symm
          obtain ⟨sh1, hs1⟩ : ∃ sh1, Λ1[j]? = some sh1 := ⟨_, List.getElem?_eq_getElem (by omega)⟩
          have e2 := hsh j sh1 hs1
          rw [hio, hs] at e2
          have e3 : sh = reS is sh1 := Option.some.inj e2
          have h4 := h3 j _ (wr_at hs1)
          have e4 : over σ is τ k = τ j := by simp [over, hp]
          rw [e4, e3, ce_re]
          have e5 : ad k = (fun k => ad (io is k)) j := by show ad k = ad (io is j); rw [hio]
          rw [e5]
          exact h4
        | none =>
          have hn := pos_none is 0 k hp
          have e4 : over σ is τ k = σ k := by simp [over, hp]
          rw [e4]
          have h4 := hP k _ (wr_at hs)
          refine h4.kept (hk (ad k) h4.lt (fun z => ?_))
          obtain ⟨j, hj, e5⟩ := z
          have hkl : k < Λ2.length := (List.getElem?_eq_some_iff.mp hs).1
          have e6 : k = io is j := hAp k (io is j) hkl (hin j hj) e5
          apply hn
          rw [e6]
          exact List.mem_of_getElem? (io_at (by omega))
/-- contracts by the sort of their answer -/
def PI (P : Int32 → Store → Prop) : Option Value → Store → Prop := fun v σ => ∃ r, v = some (.int r) ∧ P r σ
def PL (P : Int64 → Store → Prop) : Option Value → Store → Prop := fun v σ => ∃ r, v = some (.long r) ∧ P r σ
def PV (P : Store → Prop) : Option Value → Store → Prop := fun v σ => v = none ∧ P σ
section GD
variable {Γ : MC} {X : CX} {σ : Store} {L L' : List (Option Value)} {st : List Value} {pc : Nat}
theorem g_callVI {i k ci n d : Nat} {ν : Mt} {rest : List Value} {fs : List (Option Nat)} {T : u_T} {N : Nat} {P : Int32 → Store → Prop} (As : List Value) (hd : decode Γ.2.1.2.1 pc = .ok (.invokevirtual i, 3)) (hlk : LkV Γ.2.1.1.cls i ν n) (hC : Ct Γ.1 ν d (.ref k :: As) σ (PI P)) (hn : As.length = n) (hst : st = As.reverse ++ .ref k :: rest) (hk : Γ.1[k]? = some (.inr (ci, fs))) (hci : classes[ci]? = some (ν.1.cls, T, N)) (hroom : (rest.map (fun v => v.category)).sum ≤ 8) (hdep : d < Γ.2.2) (kk : ∀ (r : Int32) (σ' : Store), P r σ' → G Γ X σ' L (.int r :: rest) (pc + 3)) : G Γ X σ L st pc :=
  g_callV hd hlk hn hst hk hci hroom hdep hC (fun v σ' h => by obtain ⟨r, rfl, h⟩ := h; exact kk r σ' h)
theorem g_callVL {i k ci n d : Nat} {ν : Mt} {rest : List Value} {fs : List (Option Nat)} {T : u_T} {N : Nat} {P : Int64 → Store → Prop} (As : List Value) (hd : decode Γ.2.1.2.1 pc = .ok (.invokevirtual i, 3)) (hlk : LkV Γ.2.1.1.cls i ν n) (hC : Ct Γ.1 ν d (.ref k :: As) σ (PL P)) (hn : As.length = n) (hst : st = As.reverse ++ .ref k :: rest) (hk : Γ.1[k]? = some (.inr (ci, fs))) (hci : classes[ci]? = some (ν.1.cls, T, N)) (hroom : (rest.map (fun v => v.category)).sum ≤ 8) (hdep : d < Γ.2.2) (kk : ∀ (r : Int64) (σ' : Store), P r σ' → G Γ X σ' L (.long r :: rest) (pc + 3)) : G Γ X σ L st pc :=
  g_callV hd hlk hn hst hk hci hroom hdep hC (fun v σ' h => by obtain ⟨r, rfl, h⟩ := h; exact kk r σ' h)
theorem g_callVV {i k ci n d : Nat} {ν : Mt} {rest : List Value} {fs : List (Option Nat)} {T : u_T} {N : Nat} {P : Store → Prop} (As : List Value) (hd : decode Γ.2.1.2.1 pc = .ok (.invokevirtual i, 3)) (hlk : LkV Γ.2.1.1.cls i ν n) (hC : Ct Γ.1 ν d (.ref k :: As) σ (PV P)) (hn : As.length = n) (hst : st = As.reverse ++ .ref k :: rest) (hk : Γ.1[k]? = some (.inr (ci, fs))) (hci : classes[ci]? = some (ν.1.cls, T, N)) (hroom : (rest.map (fun v => v.category)).sum ≤ 8) (hdep : d < Γ.2.2) (kk : ∀ (σ' : Store), P σ' → G Γ X σ' L rest (pc + 3)) : G Γ X σ L st pc :=
  g_callV hd hlk hn hst hk hci hroom hdep hC (fun v σ' h => by obtain ⟨rfl, h⟩ := h; exact kk σ' h)
theorem g_callSI {i n d : Nat} {ν : Mt} {rest : List Value} {P : Int32 → Store → Prop} (As : List Value) (hd : decode Γ.2.1.2.1 pc = .ok (.invokestatic i, 3)) (hlk : LkS Γ.2.1.1.cls i ν n) (hC : Ct Γ.1 ν d As σ (PI P)) (hn : As.length = n) (hst : st = As.reverse ++ rest) (hroom : (rest.map (fun v => v.category)).sum ≤ 8) (hdep : d < Γ.2.2) (kk : ∀ (r : Int32) (σ' : Store), P r σ' → G Γ X σ' L (.int r :: rest) (pc + 3)) : G Γ X σ L st pc :=
  g_callS hd hlk hn hst hroom hdep hC (fun v σ' h => by obtain ⟨r, rfl, h⟩ := h; exact kk r σ' h)
theorem g_callSL {i n d : Nat} {ν : Mt} {rest : List Value} {P : Int64 → Store → Prop} (As : List Value) (hd : decode Γ.2.1.2.1 pc = .ok (.invokestatic i, 3)) (hlk : LkS Γ.2.1.1.cls i ν n) (hC : Ct Γ.1 ν d As σ (PL P)) (hn : As.length = n) (hst : st = As.reverse ++ rest) (hroom : (rest.map (fun v => v.category)).sum ≤ 8) (hdep : d < Γ.2.2) (kk : ∀ (r : Int64) (σ' : Store), P r σ' → G Γ X σ' L (.long r :: rest) (pc + 3)) : G Γ X σ L st pc :=
  g_callS hd hlk hn hst hroom hdep hC (fun v σ' h => by obtain ⟨r, rfl, h⟩ := h; exact kk r σ' h)
theorem g_callSV {i n d : Nat} {ν : Mt} {rest : List Value} {P : Store → Prop} (As : List Value) (hd : decode Γ.2.1.2.1 pc = .ok (.invokestatic i, 3)) (hlk : LkS Γ.2.1.1.cls i ν n) (hC : Ct Γ.1 ν d As σ (PV P)) (hn : As.length = n) (hst : st = As.reverse ++ rest) (hroom : (rest.map (fun v => v.category)).sum ≤ 8) (hdep : d < Γ.2.2) (kk : ∀ (σ' : Store), P σ' → G Γ X σ' L rest (pc + 3)) : G Γ X σ L st pc :=
  g_callS hd hlk hn hst hroom hdep hC (fun v σ' h => by obtain ⟨rfl, h⟩ := h; exact kk σ' h)
end GD
theorem Ct.embI {Λ1 Λ2 : Lay} {μ : Mt} {d : Nat} {as as' : List Value} {σ : Store} {P : Int32 → Store → Prop} (is : List Nat) (h : Ct Λ1 μ d as (sub is σ) (PI P)) (hE : embB Λ1 Λ2 is = true) (ha : as.map (re is) = as') : Ct Λ2 μ d as' σ (PI (fun r σ' => ∃ τ, P r τ ∧ σ' = over σ is τ)) := by
  subst ha
  refine (Ct.emb is hE h).post ?_
  rintro v σ' ⟨w, τ, ⟨r, rfl, h1⟩, rfl, rfl⟩
  exact ⟨r, rfl, τ, h1, rfl⟩
theorem Ct.embV {Λ1 Λ2 : Lay} {μ : Mt} {d : Nat} {as as' : List Value} {σ : Store} {P : Store → Prop} (is : List Nat) (h : Ct Λ1 μ d as (sub is σ) (PV P)) (hE : embB Λ1 Λ2 is = true) (ha : as.map (re is) = as') : Ct Λ2 μ d as' σ (PV (fun σ' => ∃ τ, P τ ∧ σ' = over σ is τ)) := by
  subst ha
  refine (Ct.emb is hE h).post ?_
  rintro v σ' ⟨w, τ, ⟨rfl, h1⟩, rfl, rfl⟩
  exact ⟨rfl, τ, h1, rfl⟩
theorem Ct.embL {Λ1 Λ2 : Lay} {μ : Mt} {d : Nat} {as as' : List Value} {σ : Store} {P : Int64 → Store → Prop} (is : List Nat) (h : Ct Λ1 μ d as (sub is σ) (PL P)) (hE : embB Λ1 Λ2 is = true) (ha : as.map (re is) = as') : Ct Λ2 μ d as' σ (PL (fun r σ' => ∃ τ, P r τ ∧ σ' = over σ is τ)) := by
  subst ha
  refine (Ct.emb is hE h).post ?_
  rintro v σ' ⟨w, τ, ⟨r, rfl, h1⟩, rfl, rfl⟩
  exact ⟨r, rfl, τ, h1, rfl⟩
