/-! MAKING: the constructors -/
def mkA (ad : Nat → Nat) (qs : List Nat) : Nat → Nat := fun k => if k < 900 then qs.getD k 0 else ad k
def mkS (rs : List Row) : Store := fun k => rs.getD k (fun _ => 0)
abbrev xA (X : WX) : Nat → Nat := X.2.2.2.2.1
theorem w_perm {Γ : WC} {X : WX} {ws ws' : va_W} {k n : Nat} {L : List (Option Value)} {st : List Value} {pc : Nat} (is : List Nat) (hn : va_nd is = true) (hs : is.map (fun i => ws[i]?) = ws'.map some) (kk : GW Γ X ws' k n L st pc) : GW Γ X ws k n L st pc := by
  obtain ⟨⟨p, l, e, R⟩, ⟨s, m, args, below⟩, ⟨meth, c, Q⟩, ⟨dC, dI, cI, cB⟩, ⟨ad, A⟩⟩ := X
  intro ok H locs ls hP hD hS hl
  refine kk ok H locs ls (fun j x hx => ?_) (hD.sub is hn hs) hS hl
  have h1 : (is.map (fun i => ws[i]?))[j]? = some (some x) := by rw [hs, List.getElem?_map, hx]; rfl
  rw [List.getElem?_map] at h1
  cases hi : is[j]? with
  | none => rw [hi] at h1; cases h1
  | some i => rw [hi] at h1; exact hP i x (Option.some.inj h1)
theorem wr_Ap {cI cB : ClassId} {ad : Nat → Nat} {σ : Store} {Λ : Lay} {A : Nat → Prop} (h : va_D A (wr cI cB ad σ 0 Λ)) : Ap Λ ad ∧ ∀ k, k < Λ.length → A (ad k) := by
  refine ⟨fun i j hi hj e => ?_, fun k hk => ?_⟩
  · have h1 : (wr cI cB ad σ 0 Λ)[i]? = some (ad i, ce cI cB ad (σ i) Λ[i]) := wr_at (List.getElem?_eq_getElem hi)
    have h2 : (wr cI cB ad σ 0 Λ)[j]? = some (ad j, ce cI cB ad (σ j) Λ[j]) := wr_at (List.getElem?_eq_getElem hj)
    exact h.1 i j _ _ h1 h2 e
  · have h1 : (wr cI cB ad σ 0 Λ)[k]? = some (ad k, ce cI cB ad (σ k) Λ[k]) := wr_at (List.getElem?_eq_getElem hk)
    exact h.2 k _ h1
/-- a call of a method over the layout that stands -/
theorem w_callV {Γ : WC} {X : WX} {ws : va_W} {k n : Nat} {L : List (Option Value)} {pc : Nat} {Λ : Lay} {i d ci a : Nat} {ν : Mt} {ad' : Nat → Nat} {σ : Store} {P : Store → Prop} {fs : List (Option Nat)} {T : u_T} {N : Nat} (hd : decode Γ.1.2.1 pc = .ok (.invokevirtual i, 3)) (hlk : LkV Γ.1.1.cls i ν 0) (hC : Ct Λ ν d [.ref 0] σ (PV P)) (h0 : Λ[0]? = some (.inr (ci, fs))) (hci : classes[ci]? = some (ν.1.cls, T, N)) (hws : ws = wr (xI X) (xB X) ad' σ 0 Λ) (ha : a = ad' 0) (had : ∀ k, 900 ≤ k → ad' k = xA X k) (hdep : d < Γ.2.1) (hk : k ≤ Γ.2.2.1) (hn : n ≤ Γ.2.2.2) (kk : ∀ σ', P σ' → GW Γ X (wr (xI X) (xB X) ad' σ' 0 Λ) k n L [] (pc + 3)) : GW Γ X ws k n L [.ref a] pc := by
  obtain ⟨⟨p, l, e, R⟩, ⟨s, m, args, below⟩, ⟨meth, c, Q⟩, ⟨dC, dI, cI, cB⟩, ⟨ad, A⟩⟩ := X
  intro ok H locs ls hP hD hS hl
  have h1 := fun σ' hp H1 locs1 hP hD hS => kk σ' hp ok H1 locs1 ls hP hD hS hl
  obtain ⟨hx, hb, hm, hown, hts, hK, hA, hRO, hfr, hlo, hce, hsl, -⟩ := ok
  obtain ⟨l1, l2, l3, l4, l5, l6, l7⟩ := hlk
  subst hws; subst ha
  obtain ⟨hAp, hAk⟩ := wr_Ap hD
  have hRO1 : RO ad' A s := hRO.1.re had
  have cw : CallW R s args Γ.1.1.cls ν.1.cls i ν.1 ν.2.1 ν.2.2.1 ν.2.2.2 (wds ν) (rmd d) 0 0 0 :=
    ⟨callB_of 0 hts (good_tb l5) rfl rfl rfl (hts _ l4) (hts _ l1) l6 ⟨by show d + 1 ≤ _; omega, by show 8 + (ν.2.2.1 + 11) + 40 * d ≤ _; omega⟩, hts _ l2, hts _ l3⟩
  have hrm : 2 * (F0 m pc ls [.ref (ad' 0)]).monitorRoom + (([] : List Value).map fun v => v.category).sum ≤ 8 := by show 2 * 0 + 0 ≤ 8; decide
  have hrun := va_runV (p := p) (e := e) (below := below) (meth := meth) (locs := locs) (cells := k) (slots := n) (nL := Γ.1.2.2.1) (g := F0 m pc ls [.ref (ad' 0)]) (As := []) (rest := []) (b := ad' 0) ⟨hx, hb, hm, hown, hts⟩ (hC l dC dI cI cB ad') cw ⟨Pw_blind, va_recv hK hP hci (wr_at h0), fun U hU hW => ⟨rfl, Pw_at hP hS hK hAp hAk hRO1 hU hW⟩⟩ rfl rfl hl.1 rfl hrm hd ⟨by omega, by omega⟩
  have hA' : ∀ q, Aw Λ ad' q → A q := fun q ⟨k, h1, h2⟩ => by rw [h2]; exact hAk k h1
  intro T hT Y
  obtain ⟨v, st₀, t, T', Lq, h0', Y', hL, e1, e2, ⟨⟨w, σ', hv, ⟨hw, hp⟩, hP1⟩, hz, hkk⟩, go⟩ := hrun T hT Y
  subst hw
  cases hv
  rw [h0'] at hz hkk
  obtain ⟨t2, a1, b1⟩ := h1 σ' hp T'.heap (locs ++ Lq) (by rw [e1]; exact hP1) (wr_D hAp hAk) ⟨Nat.le_trans hS.1 (by rw [e1]; exact hz), fun q h1 h2 => by rw [e1, hkk q (Nat.lt_of_lt_of_le h1 hS.1) (fun z => h2 (hA' q z))]; exact hS.2.1 q h1 h2, fun q hq => by
      rcases List.mem_append.mp hq with h | h
      · exact hS.2.2 q h
      · exact hA' _ (hL q h)⟩ T' rfl Y'
  exact ⟨t2, go t2 a1, b1⟩
set_option maxRecDepth 20000 in
theorem li_LS : LkI mt_LS_init := ⟨tb_mem 88 rfl rfl, tb_mem 69 rfl rfl, tb_mem 89 rfl rfl, rfl, rfl, ⟨by decide, by decide, by decide +kernel⟩, by decide⟩
set_option maxRecDepth 20000 in
theorem li_Pk : LkI mt_Pk_init := ⟨tb_mem 102 rfl rfl, tb_mem 71 rfl rfl, tb_mem 103 rfl rfl, rfl, rfl, ⟨by decide, by decide, by decide +kernel⟩, by decide⟩
set_option maxRecDepth 20000 in
theorem li_Tr : LkI mt_Tr_init := ⟨tb_mem 96 rfl rfl, tb_mem 70 rfl rfl, tb_mem 97 rfl rfl, rfl, rfl, ⟨by decide, by decide, by decide +kernel⟩, by decide⟩
set_option maxRecDepth 20000 in
theorem li_Tp : LkI mt_Tp_init := ⟨tb_mem 188 rfl rfl, tb_mem 72 rfl rfl, tb_mem 189 rfl rfl, rfl, rfl, ⟨by decide, by decide, by decide +kernel⟩, by decide⟩
set_option maxRecDepth 20000 in
theorem li_Rw : LkI mt_Rw_init := ⟨tb_mem 215 rfl rfl, tb_mem 73 rfl rfl, tb_mem 216 rfl rfl, rfl, rfl, ⟨by decide, by decide, by decide +kernel⟩, by decide⟩
set_option maxRecDepth 20000 in
theorem li_Sh : LkI mt_Sh_init := ⟨tb_mem 230 rfl rfl, tb_mem 74 rfl rfl, tb_mem 231 rfl rfl, rfl, rfl, ⟨by decide, by decide, by decide +kernel⟩, by decide⟩
set_option maxRecDepth 20000 in
theorem li_Sv : LkI mt_Sv_init := ⟨tb_mem 249 rfl rfl, tb_mem 75 rfl rfl, tb_mem 250 rfl rfl, rfl, rfl, ⟨by decide, by decide, by decide +kernel⟩, by decide⟩
set_option maxRecDepth 20000 in
theorem li_Ac : LkI mt_Ac_init := ⟨tb_mem 268 rfl rfl, tb_mem 76 rfl rfl, tb_mem 269 rfl rfl, rfl, rfl, ⟨by decide, by decide, by decide +kernel⟩, by decide⟩
set_option maxRecDepth 20000 in
theorem li_Md : LkI mt_Md_init := ⟨tb_mem 906 rfl rfl, tb_mem 77 rfl rfl, tb_mem 907 rfl rfl, rfl, rfl, ⟨by decide, by decide, by decide +kernel⟩, by decide⟩
set_option maxRecDepth 20000 in
theorem lm_Law_9 : Cond.methodLink "LateSeekersLaw" 9 mt_LS_init.1 ∈ tb := tb_mem 87 rfl rfl
set_option maxRecDepth 20000 in
theorem lo_LS_3 : Cond.methodLink "LateSeekers" 3 Lib.objectInit ∈ tb := tb_mem 90 rfl rfl
set_option maxRecDepth 20000 in
theorem lo_Tr_3 : Cond.methodLink "LateSeekers$Trials" 3 Lib.objectInit ∈ tb := tb_mem 98 rfl rfl
set_option maxRecDepth 20000 in
theorem lm_Tr_11 : Cond.methodLink "LateSeekers$Trials" 11 mt_Pk_init.1 ∈ tb := tb_mem 101 rfl rfl
set_option maxRecDepth 20000 in
theorem lo_Pk_3 : Cond.methodLink "LateSeekers$Park" 3 Lib.objectInit ∈ tb := tb_mem 104 rfl rfl
set_option maxRecDepth 20000 in
theorem lm_LS_23 : Cond.methodLink "LateSeekers" 23 mt_Pk_init.1 ∈ tb := tb_mem 184 rfl rfl
set_option maxRecDepth 20000 in
theorem lo_Tp_3 : Cond.methodLink "LateSeekers$TapeReader" 3 Lib.objectInit ∈ tb := tb_mem 190 rfl rfl
set_option maxRecDepth 20000 in
theorem lo_Rw_3 : Cond.methodLink "LateSeekers$Rows" 3 Lib.objectInit ∈ tb := tb_mem 217 rfl rfl
set_option maxRecDepth 20000 in
theorem lo_Sh_3 : Cond.methodLink "LateSeekers$Sheets" 3 Lib.objectInit ∈ tb := tb_mem 232 rfl rfl
set_option maxRecDepth 20000 in
theorem lo_Sv_3 : Cond.methodLink "LateSeekers$Shelves" 3 Lib.objectInit ∈ tb := tb_mem 251 rfl rfl
set_option maxRecDepth 20000 in
theorem lo_Ac_3 : Cond.methodLink "LateSeekers$Actor" 3 Lib.objectInit ∈ tb := tb_mem 270 rfl rfl
set_option maxRecDepth 20000 in
theorem lm_Law_12 : Cond.methodLink "LateSeekersLaw" 12 mt_Md_init.1 ∈ tb := tb_mem 905 rfl rfl
set_option maxRecDepth 20000 in
theorem lo_Md_1 : Cond.methodLink "LateSeekersModel" 1 Lib.objectInit ∈ tb := tb_mem 908 rfl rfl
set_option maxRecDepth 20000 in
theorem lc_Law_7 : Cond.classLink "LateSeekersLaw" 7 "LateSeekers" ∈ tb ∧ Cond.instantiable "LateSeekers" 9 ∈ tb ∧ Cond.initialized "LateSeekers" ∈ tb := ⟨tb_mem 85 rfl rfl, tb_mem 86 rfl rfl, tb_mem 69 rfl rfl⟩
set_option maxRecDepth 20000 in
theorem lc_LS_9 : Cond.classLink "LateSeekers" 9 "LateSeekers$Trials" ∈ tb ∧ Cond.instantiable "LateSeekers$Trials" 2 ∈ tb ∧ Cond.initialized "LateSeekers$Trials" ∈ tb := ⟨tb_mem 93 rfl rfl, tb_mem 94 rfl rfl, tb_mem 70 rfl rfl⟩
set_option maxRecDepth 20000 in
theorem lc_Tr_9 : Cond.classLink "LateSeekers$Trials" 9 "LateSeekers$Park" ∈ tb ∧ Cond.instantiable "LateSeekers$Park" 12 ∈ tb ∧ Cond.initialized "LateSeekers$Park" ∈ tb := ⟨tb_mem 99 rfl rfl, tb_mem 100 rfl rfl, tb_mem 71 rfl rfl⟩
set_option maxRecDepth 20000 in
theorem lc_LS_21 : Cond.classLink "LateSeekers" 21 "LateSeekers$Park" ∈ tb ∧ Cond.instantiable "LateSeekers$Park" 12 ∈ tb ∧ Cond.initialized "LateSeekers$Park" ∈ tb := ⟨tb_mem 183 rfl rfl, tb_mem 100 rfl rfl, tb_mem 71 rfl rfl⟩
set_option maxRecDepth 20000 in
theorem lc_LS_27 : Cond.classLink "LateSeekers" 27 "LateSeekers$TapeReader" ∈ tb ∧ Cond.instantiable "LateSeekers$TapeReader" 6 ∈ tb ∧ Cond.initialized "LateSeekers$TapeReader" ∈ tb := ⟨tb_mem 185 rfl rfl, tb_mem 186 rfl rfl, tb_mem 72 rfl rfl⟩
set_option maxRecDepth 20000 in
theorem lc_LS_34 : Cond.classLink "LateSeekers" 34 "LateSeekers$Rows" ∈ tb ∧ Cond.instantiable "LateSeekers$Rows" 2 ∈ tb ∧ Cond.initialized "LateSeekers$Rows" ∈ tb := ⟨tb_mem 212 rfl rfl, tb_mem 213 rfl rfl, tb_mem 73 rfl rfl⟩
set_option maxRecDepth 20000 in
theorem lc_LS_41 : Cond.classLink "LateSeekers" 41 "LateSeekers$Sheets" ∈ tb ∧ Cond.instantiable "LateSeekers$Sheets" 3 ∈ tb ∧ Cond.initialized "LateSeekers$Sheets" ∈ tb := ⟨tb_mem 227 rfl rfl, tb_mem 228 rfl rfl, tb_mem 74 rfl rfl⟩
set_option maxRecDepth 20000 in
theorem lc_LS_48 : Cond.classLink "LateSeekers" 48 "LateSeekers$Shelves" ∈ tb ∧ Cond.instantiable "LateSeekers$Shelves" 3 ∈ tb ∧ Cond.initialized "LateSeekers$Shelves" ∈ tb := ⟨tb_mem 246 rfl rfl, tb_mem 247 rfl rfl, tb_mem 75 rfl rfl⟩
set_option maxRecDepth 20000 in
theorem lc_LS_55 : Cond.classLink "LateSeekers" 55 "LateSeekers$Actor" ∈ tb ∧ Cond.instantiable "LateSeekers$Actor" 6 ∈ tb ∧ Cond.initialized "LateSeekers$Actor" ∈ tb := ⟨tb_mem 265 rfl rfl, tb_mem 266 rfl rfl, tb_mem 76 rfl rfl⟩
set_option maxRecDepth 20000 in
theorem lc_Law_10 : Cond.classLink "LateSeekersLaw" 10 "LateSeekersModel" ∈ tb ∧ Cond.instantiable "LateSeekersModel" 27 ∈ tb ∧ Cond.initialized "LateSeekersModel" ∈ tb := ⟨tb_mem 903 rfl rfl, tb_mem 904 rfl rfl, tb_mem 77 rfl rfl⟩
theorem ln_11 : ∀ U, NL U → va_Nw (.methodLinkNest "LateSeekers" 11 mt_Tr_init.1 "LateSeekers") U := fun _ h => h.1
theorem ln_29 : ∀ U, NL U → va_Nw (.methodLinkNest "LateSeekers" 29 mt_Tp_init.1 "LateSeekers") U := fun _ h => h.2.1
theorem ln_36 : ∀ U, NL U → va_Nw (.methodLinkNest "LateSeekers" 36 mt_Rw_init.1 "LateSeekers") U := fun _ h => h.2.2.1
theorem ln_43 : ∀ U, NL U → va_Nw (.methodLinkNest "LateSeekers" 43 mt_Sh_init.1 "LateSeekers") U := fun _ h => h.2.2.2.1
theorem ln_50 : ∀ U, NL U → va_Nw (.methodLinkNest "LateSeekers" 50 mt_Sv_init.1 "LateSeekers") U := fun _ h => h.2.2.2.2.1
theorem ln_57 : ∀ U, NL U → va_Nw (.methodLinkNest "LateSeekers" 57 mt_Ac_init.1 "LateSeekers") U := fun _ h => h.2.2.2.2.2
theorem df_LS : ∀ j, j < 9 → defaultValue (t_LS j) = vp_V [.null, .null, .int 0, .null, .null, .null, .null, .null, .null] j := by
  intro j hj
  rcases (show j = 0 ∨ j = 1 ∨ j = 2 ∨ j = 3 ∨ j = 4 ∨ j = 5 ∨ j = 6 ∨ j = 7 ∨ j = 8 by omega) with rfl | rfl | rfl | rfl | rfl | rfl | rfl | rfl | rfl <;> rfl
theorem df_Pk : ∀ j, j < 12 → defaultValue (t_Pk j) = vp_V [.null, .null, .null, .null, .null, .null, .null, .null, .int 0, .int 0, .int 0, .int 0] j := by
  intro j hj
  rcases (show j = 0 ∨ j = 1 ∨ j = 2 ∨ j = 3 ∨ j = 4 ∨ j = 5 ∨ j = 6 ∨ j = 7 ∨ j = 8 ∨ j = 9 ∨ j = 10 ∨ j = 11 by omega) with rfl | rfl | rfl | rfl | rfl | rfl | rfl | rfl | rfl | rfl | rfl | rfl <;> rfl
theorem df_Tr : ∀ j, j < 2 → defaultValue (t_Tr j) = vp_V [.null, .null] j := by
  intro j hj
  rcases (show j = 0 ∨ j = 1 by omega) with rfl | rfl <;> rfl
theorem df_Tp : ∀ j, j < 6 → defaultValue (t_Tp j) = vp_V [.null, .int 0, .int 0, .int 0, .int 0, .int 0] j := by
  intro j hj
  rcases (show j = 0 ∨ j = 1 ∨ j = 2 ∨ j = 3 ∨ j = 4 ∨ j = 5 by omega) with rfl | rfl | rfl | rfl | rfl | rfl <;> rfl
theorem df_Rw : ∀ j, j < 2 → defaultValue (t_Rw j) = vp_V [.null, .int 0] j := by
  intro j hj
  rcases (show j = 0 ∨ j = 1 by omega) with rfl | rfl <;> rfl
theorem df_Sh : ∀ j, j < 3 → defaultValue (t_Sh j) = vp_V [.null, .null, .null] j := by
  intro j hj
  rcases (show j = 0 ∨ j = 1 ∨ j = 2 by omega) with rfl | rfl | rfl <;> rfl
theorem df_Sv : ∀ j, j < 3 → defaultValue (t_Sv j) = vp_V [.null, .null, .null] j := by
  intro j hj
  rcases (show j = 0 ∨ j = 1 ∨ j = 2 by omega) with rfl | rfl | rfl <;> rfl
theorem df_Ac : ∀ j, j < 6 → defaultValue (t_Ac j) = vp_V [.null, .int 0, .int 0, .int 0, .int 0, .int 0] j := by
  intro j hj
  rcases (show j = 0 ∨ j = 1 ∨ j = 2 ∨ j = 3 ∨ j = 4 ∨ j = 5 by omega) with rfl | rfl | rfl | rfl | rfl | rfl <;> rfl
theorem df_Md : ∀ j, j < 27 → defaultValue (t_Md j) = vp_V [.null, .null, .null, .null, .int 0, .null, .int 0, .int 0, .int 0, .int 0, .int 0, .int 0, .null, .null, .int 0, .null, .null, .null, .null, .null, .null, .null, .int 0, .int 0, .int 0, .int 0, .int 0] j := by
  intro j hj
  rcases (show j = 0 ∨ j = 1 ∨ j = 2 ∨ j = 3 ∨ j = 4 ∨ j = 5 ∨ j = 6 ∨ j = 7 ∨ j = 8 ∨ j = 9 ∨ j = 10 ∨ j = 11 ∨ j = 12 ∨ j = 13 ∨ j = 14 ∨ j = 15 ∨ j = 16 ∨ j = 17 ∨ j = 18 ∨ j = 19 ∨ j = 20 ∨ j = 21 ∨ j = 22 ∨ j = 23 ∨ j = 24 ∨ j = 25 ∨ j = 26 by omega) with rfl | rfl | rfl | rfl | rfl | rfl | rfl | rfl | rfl | rfl | rfl | rfl | rfl | rfl | rfl | rfl | rfl | rfl | rfl | rfl | rfl | rfl | rfl | rfl | rfl | rfl | rfl <;> rfl
abbrev ΛRw : Lay := [.inr (4, [some 1, none]), .inl (false, 30)]
abbrev ΛSh : Lay := [.inr (5, [some 1, some 2, some 3]), .inl (false, 4), .inl (false, 4), .inl (false, 160)]
abbrev ΛSv : Lay := [.inr (6, [some 1, some 2, some 3]), .inl (false, 4), .inl (false, 4), .inl (false, 4)]
abbrev ΛTr : Lay := [.inr (2, [some 1, some 10]), .inr (1, [some 2, some 3, some 4, some 5, some 6, some 7, some 8, some 9, none, none, none, none]), .inl (false, 4), .inl (false, 12), .inl (false, 8), .inl (false, 8), .inl (false, 8), .inl (false, 8), .inl (false, 8), .inl (false, 8), .inr (1, [some 11, some 12, some 13, some 14, some 15, some 16, some 17, some 18, none, none, none, none]), .inl (false, 4), .inl (false, 12), .inl (false, 8), .inl (false, 8), .inl (false, 8), .inl (false, 8), .inl (false, 8), .inl (false, 8)]
set_option maxRecDepth 20000 in
theorem i_init_Tp : Ci ΛT 3 [.null, .int 0, .int 0, .int 0, .int 0, .int 0] mt_Tp_init 1 1 200 (fun σ => σ 0 1 = nI 0) := by
  refine Ci.of (by decide) rfl (by decide) rfl (fun X h0 hR => ?_)
  show GW (mt_Tp_init, 1, 1, 200) X [(h0, .inr (3, [.null, .int 0, .int 0, .int 0, .int 0, .int 0]))] 0 0 [some (.ref h0)] [] 0
  refine w_aload_n (by decide +kernel : decode prog_7_method_1_code 0 = .ok (.aload_n 0, 1)) rfl ?_
  refine w_obj (by decide +kernel : decode prog_7_method_1_code 1 = .ok (.invokespecial 3, 3)) lo_Tp_3 (by decide) (by decide) ?_
  refine w_aload_n (by decide +kernel : decode prog_7_method_1_code 4 = .ok (.aload_n 0, 1)) rfl ?_
  refine w_sipush (v := nI 200) (by decide +kernel : decode prog_7_method_1_code 5 = .ok (.sipush 200, 3)) (by decide) ?_
  refine w_newB (N := 200) (by decide +kernel : decode prog_7_method_1_code 8 = .ok (.newarray .byte, 2)) rfl (by decide) (by decide) (by decide) (fun q8 => ?_)
  refine w_ws (show _ = ([(h0, .inr (3, [.null, .int 0, .int 0, .int 0, .int 0, .int 0])), (q8, .inl (xB X, 200, .inl (fun _ => 0)))] : va_W) from rfl) ?_
  refine w_put (q0 := 0) (ty := .array .byte) (by decide +kernel : decode prog_7_method_1_code 10 = .ok (.putfield 9, 3)) rfl fl_Tp_9 (fun C T N h => by cases h; exact Or.inr ⟨rfl, rfl⟩) (by decide +kernel) rfl rfl rfl (Nat.le_of_ble_eq_true rfl) ?_
  refine w_ws (show _ = ([(h0, .inr (3, [.ref q8, .int 0, .int 0, .int 0, .int 0, .int 0])), (q8, .inl (xB X, 200, .inl (fun _ => 0)))] : va_W) from rfl) ?_
  exact w_ret hR (by decide +kernel : decode prog_7_method_1_code 13 = .ok (.return_, 1)) (by decide) (by decide) (mkA (xA X) [h0, q8]) (mkS [fun _ => 0, (fun _ => 0)]) rfl (rfl) rfl
set_option maxRecDepth 20000 in
theorem i_init_Rw : Ci ΛRw 4 [.null, .int 0] mt_Rw_init 1 1 30 (fun σ => σ 0 1 = nI 0 ∧ ∀ j, σ 1 j = nI 0) := by
  refine Ci.of (by decide) rfl (by decide) rfl (fun X h0 hR => ?_)
  show GW (mt_Rw_init, 1, 1, 30) X [(h0, .inr (4, [.null, .int 0]))] 0 0 [some (.ref h0)] [] 0
  refine w_aload_n (by decide +kernel : decode prog_4_method_1_code 0 = .ok (.aload_n 0, 1)) rfl ?_
  refine w_obj (by decide +kernel : decode prog_4_method_1_code 1 = .ok (.invokespecial 3, 3)) lo_Rw_3 (by decide) (by decide) ?_
  refine w_aload_n (by decide +kernel : decode prog_4_method_1_code 4 = .ok (.aload_n 0, 1)) rfl ?_
  refine w_bipush (v := nI 30) (by decide +kernel : decode prog_4_method_1_code 5 = .ok (.bipush 30, 2)) (by decide) ?_
  refine w_newI (N := 30) (by decide +kernel : decode prog_4_method_1_code 7 = .ok (.newarray .int, 2)) rfl (by decide) (by decide) (by decide) (fun q7 => ?_)
  refine w_ws (show _ = ([(h0, .inr (4, [.null, .int 0])), (q7, .inl (xI X, 30, .inl (fun _ => 0)))] : va_W) from rfl) ?_
  refine w_put (q0 := 0) (ty := .array .int) (by decide +kernel : decode prog_4_method_1_code 9 = .ok (.putfield 9, 3)) rfl fl_Rw_9 (fun C T N h => by cases h; exact Or.inr ⟨rfl, rfl⟩) (by decide +kernel) rfl rfl rfl (Nat.le_of_ble_eq_true rfl) ?_
  refine w_ws (show _ = ([(h0, .inr (4, [.ref q7, .int 0])), (q7, .inl (xI X, 30, .inl (fun _ => 0)))] : va_W) from rfl) ?_
  exact w_ret hR (by decide +kernel : decode prog_4_method_1_code 12 = .ok (.return_, 1)) (by decide) (by decide) (mkA (xA X) [h0, q7]) (mkS [fun _ => 0, (fun _ => 0)]) rfl (⟨rfl, fun _ => rfl⟩) rfl
set_option maxRecDepth 20000 in
theorem i_init_Sh : Ci ΛSh 5 [.null, .null, .null] mt_Sh_init 1 3 168 (fun σ => ∀ i, i < 4 → σ 1 i = -1 ∧ σ 2 i = nI 0) := by
  refine Ci.of (by decide) rfl (by decide) rfl (fun X h0 hR => ?_)
  show GW (mt_Sh_init, 1, 3, 168) X [(h0, .inr (5, [.null, .null, .null]))] 0 0 [some (.ref h0)] [] 0
  refine w_aload_n (by decide +kernel : decode prog_5_method_1_code 0 = .ok (.aload_n 0, 1)) rfl ?_
  refine w_obj (by decide +kernel : decode prog_5_method_1_code 1 = .ok (.invokespecial 3, 3)) lo_Sh_3 (by decide) (by decide) ?_
  refine w_aload_n (by decide +kernel : decode prog_5_method_1_code 4 = .ok (.aload_n 0, 1)) rfl ?_
  refine w_iconst (v := nI 4) (by decide +kernel : decode prog_5_method_1_code 5 = .ok (.iconst 4, 1)) (by decide) ?_
  refine w_newI (N := 4) (by decide +kernel : decode prog_5_method_1_code 6 = .ok (.newarray .int, 2)) rfl (by decide) (by decide) (by decide) (fun q6 => ?_)
  refine w_ws (show _ = ([(h0, .inr (5, [.null, .null, .null])), (q6, .inl (xI X, 4, .inl (fun _ => 0)))] : va_W) from rfl) ?_
  refine w_dup (by decide +kernel : decode prog_5_method_1_code 8 = .ok (.dup, 1)) rfl ?_
  refine w_iconst (v := nI 0) (by decide +kernel : decode prog_5_method_1_code 9 = .ok (.iconst 0, 1)) (by decide) ?_
  refine w_iconst (v := (-1)) (by decide +kernel : decode prog_5_method_1_code 10 = .ok (.iconst (-1), 1)) (by decide) ?_
  refine w_iast (j := 0) (q0 := 1) (by decide +kernel : decode prog_5_method_1_code 11 = .ok (.iastore, 1)) rfl rfl (by decide) (by decide) ?_
  refine w_ws (show _ = ([(h0, .inr (5, [.null, .null, .null])), (q6, .inl (xI X, 4, .inl (upd (fun _ => 0) 0 (-1))))] : va_W) from rfl) ?_
  refine w_dup (by decide +kernel : decode prog_5_method_1_code 12 = .ok (.dup, 1)) rfl ?_
  refine w_iconst (v := nI 1) (by decide +kernel : decode prog_5_method_1_code 13 = .ok (.iconst 1, 1)) (by decide) ?_
  refine w_iconst (v := (-1)) (by decide +kernel : decode prog_5_method_1_code 14 = .ok (.iconst (-1), 1)) (by decide) ?_
  refine w_iast (j := 1) (q0 := 1) (by decide +kernel : decode prog_5_method_1_code 15 = .ok (.iastore, 1)) rfl rfl (by decide) (by decide) ?_
  refine w_ws (show _ = ([(h0, .inr (5, [.null, .null, .null])), (q6, .inl (xI X, 4, .inl (upd (upd (fun _ => 0) 0 (-1)) 1 (-1))))] : va_W) from rfl) ?_
  refine w_dup (by decide +kernel : decode prog_5_method_1_code 16 = .ok (.dup, 1)) rfl ?_
  refine w_iconst (v := nI 2) (by decide +kernel : decode prog_5_method_1_code 17 = .ok (.iconst 2, 1)) (by decide) ?_
  refine w_iconst (v := (-1)) (by decide +kernel : decode prog_5_method_1_code 18 = .ok (.iconst (-1), 1)) (by decide) ?_
  refine w_iast (j := 2) (q0 := 1) (by decide +kernel : decode prog_5_method_1_code 19 = .ok (.iastore, 1)) rfl rfl (by decide) (by decide) ?_
  refine w_ws (show _ = ([(h0, .inr (5, [.null, .null, .null])), (q6, .inl (xI X, 4, .inl (upd (upd (upd (fun _ => 0) 0 (-1)) 1 (-1)) 2 (-1))))] : va_W) from rfl) ?_
  refine w_dup (by decide +kernel : decode prog_5_method_1_code 20 = .ok (.dup, 1)) rfl ?_
  refine w_iconst (v := nI 3) (by decide +kernel : decode prog_5_method_1_code 21 = .ok (.iconst 3, 1)) (by decide) ?_
  refine w_iconst (v := (-1)) (by decide +kernel : decode prog_5_method_1_code 22 = .ok (.iconst (-1), 1)) (by decide) ?_
  refine w_iast (j := 3) (q0 := 1) (by decide +kernel : decode prog_5_method_1_code 23 = .ok (.iastore, 1)) rfl rfl (by decide) (by decide) ?_
  refine w_ws (show _ = ([(h0, .inr (5, [.null, .null, .null])), (q6, .inl (xI X, 4, .inl (upd (upd (upd (upd (fun _ => 0) 0 (-1)) 1 (-1)) 2 (-1)) 3 (-1))))] : va_W) from rfl) ?_
  refine w_put (q0 := 0) (ty := .array .int) (by decide +kernel : decode prog_5_method_1_code 24 = .ok (.putfield 9, 3)) rfl fl_Sh_9 (fun C T N h => by cases h; exact Or.inr ⟨rfl, rfl⟩) (by decide +kernel) rfl rfl rfl (Nat.le_of_ble_eq_true rfl) ?_
  refine w_ws (show _ = ([(h0, .inr (5, [.ref q6, .null, .null])), (q6, .inl (xI X, 4, .inl (upd (upd (upd (upd (fun _ => 0) 0 (-1)) 1 (-1)) 2 (-1)) 3 (-1))))] : va_W) from rfl) ?_
  refine w_aload_n (by decide +kernel : decode prog_5_method_1_code 27 = .ok (.aload_n 0, 1)) rfl ?_
  refine w_iconst (v := nI 4) (by decide +kernel : decode prog_5_method_1_code 28 = .ok (.iconst 4, 1)) (by decide) ?_
  refine w_newI (N := 4) (by decide +kernel : decode prog_5_method_1_code 29 = .ok (.newarray .int, 2)) rfl (by decide) (by decide) (by decide) (fun q29 => ?_)
  refine w_ws (show _ = ([(h0, .inr (5, [.ref q6, .null, .null])), (q6, .inl (xI X, 4, .inl (upd (upd (upd (upd (fun _ => 0) 0 (-1)) 1 (-1)) 2 (-1)) 3 (-1)))), (q29, .inl (xI X, 4, .inl (fun _ => 0)))] : va_W) from rfl) ?_
  refine w_put (q0 := 0) (ty := .array .int) (by decide +kernel : decode prog_5_method_1_code 31 = .ok (.putfield 15, 3)) rfl fl_Sh_15 (fun C T N h => by cases h; exact Or.inr ⟨rfl, rfl⟩) (by decide +kernel) rfl rfl rfl (Nat.le_of_ble_eq_true rfl) ?_
  refine w_ws (show _ = ([(h0, .inr (5, [.ref q6, .ref q29, .null])), (q6, .inl (xI X, 4, .inl (upd (upd (upd (upd (fun _ => 0) 0 (-1)) 1 (-1)) 2 (-1)) 3 (-1)))), (q29, .inl (xI X, 4, .inl (fun _ => 0)))] : va_W) from rfl) ?_
  refine w_aload_n (by decide +kernel : decode prog_5_method_1_code 34 = .ok (.aload_n 0, 1)) rfl ?_
  refine w_sipush (v := nI 160) (by decide +kernel : decode prog_5_method_1_code 35 = .ok (.sipush 160, 3)) (by decide) ?_
  refine w_newI (N := 160) (by decide +kernel : decode prog_5_method_1_code 38 = .ok (.newarray .int, 2)) rfl (by decide) (by decide) (by decide) (fun q38 => ?_)
  refine w_ws (show _ = ([(h0, .inr (5, [.ref q6, .ref q29, .null])), (q6, .inl (xI X, 4, .inl (upd (upd (upd (upd (fun _ => 0) 0 (-1)) 1 (-1)) 2 (-1)) 3 (-1)))), (q29, .inl (xI X, 4, .inl (fun _ => 0))), (q38, .inl (xI X, 160, .inl (fun _ => 0)))] : va_W) from rfl) ?_
  refine w_put (q0 := 0) (ty := .array .int) (by decide +kernel : decode prog_5_method_1_code 40 = .ok (.putfield 18, 3)) rfl fl_Sh_18 (fun C T N h => by cases h; exact Or.inr ⟨rfl, rfl⟩) (by decide +kernel) rfl rfl rfl (Nat.le_of_ble_eq_true rfl) ?_
  refine w_ws (show _ = ([(h0, .inr (5, [.ref q6, .ref q29, .ref q38])), (q6, .inl (xI X, 4, .inl (upd (upd (upd (upd (fun _ => 0) 0 (-1)) 1 (-1)) 2 (-1)) 3 (-1)))), (q29, .inl (xI X, 4, .inl (fun _ => 0))), (q38, .inl (xI X, 160, .inl (fun _ => 0)))] : va_W) from rfl) ?_
  exact w_ret hR (by decide +kernel : decode prog_5_method_1_code 43 = .ok (.return_, 1)) (by decide) (by decide) (mkA (xA X) [h0, q6, q29, q38]) (mkS [fun _ => 0, (upd (upd (upd (upd (fun _ => 0) 0 (-1)) 1 (-1)) 2 (-1)) 3 (-1)), (fun _ => 0), (fun _ => 0)]) rfl (fun i hi => ⟨by rcases (show i = 0 ∨ i = 1 ∨ i = 2 ∨ i = 3 by omega) with rfl | rfl | rfl | rfl <;> rfl, rfl⟩) rfl
set_option maxRecDepth 20000 in
theorem i_init_Sv : Ci ΛSv 6 [.null, .null, .null] mt_Sv_init 1 3 12 (fun σ => ∀ i, i < 4 → σ 1 i = -1 ∧ σ 2 i = -1) := by
  refine Ci.of (by decide) rfl (by decide) rfl (fun X h0 hR => ?_)
  show GW (mt_Sv_init, 1, 3, 12) X [(h0, .inr (6, [.null, .null, .null]))] 0 0 [some (.ref h0)] [] 0
  refine w_aload_n (by decide +kernel : decode prog_6_method_1_code 0 = .ok (.aload_n 0, 1)) rfl ?_
  refine w_obj (by decide +kernel : decode prog_6_method_1_code 1 = .ok (.invokespecial 3, 3)) lo_Sv_3 (by decide) (by decide) ?_
  refine w_aload_n (by decide +kernel : decode prog_6_method_1_code 4 = .ok (.aload_n 0, 1)) rfl ?_
  refine w_iconst (v := nI 4) (by decide +kernel : decode prog_6_method_1_code 5 = .ok (.iconst 4, 1)) (by decide) ?_
  refine w_newI (N := 4) (by decide +kernel : decode prog_6_method_1_code 6 = .ok (.newarray .int, 2)) rfl (by decide) (by decide) (by decide) (fun q6 => ?_)
  refine w_ws (show _ = ([(h0, .inr (6, [.null, .null, .null])), (q6, .inl (xI X, 4, .inl (fun _ => 0)))] : va_W) from rfl) ?_
  refine w_dup (by decide +kernel : decode prog_6_method_1_code 8 = .ok (.dup, 1)) rfl ?_
  refine w_iconst (v := nI 0) (by decide +kernel : decode prog_6_method_1_code 9 = .ok (.iconst 0, 1)) (by decide) ?_
  refine w_iconst (v := (-1)) (by decide +kernel : decode prog_6_method_1_code 10 = .ok (.iconst (-1), 1)) (by decide) ?_
  refine w_iast (j := 0) (q0 := 1) (by decide +kernel : decode prog_6_method_1_code 11 = .ok (.iastore, 1)) rfl rfl (by decide) (by decide) ?_
  refine w_ws (show _ = ([(h0, .inr (6, [.null, .null, .null])), (q6, .inl (xI X, 4, .inl (upd (fun _ => 0) 0 (-1))))] : va_W) from rfl) ?_
  refine w_dup (by decide +kernel : decode prog_6_method_1_code 12 = .ok (.dup, 1)) rfl ?_
  refine w_iconst (v := nI 1) (by decide +kernel : decode prog_6_method_1_code 13 = .ok (.iconst 1, 1)) (by decide) ?_
  refine w_iconst (v := (-1)) (by decide +kernel : decode prog_6_method_1_code 14 = .ok (.iconst (-1), 1)) (by decide) ?_
  refine w_iast (j := 1) (q0 := 1) (by decide +kernel : decode prog_6_method_1_code 15 = .ok (.iastore, 1)) rfl rfl (by decide) (by decide) ?_
  refine w_ws (show _ = ([(h0, .inr (6, [.null, .null, .null])), (q6, .inl (xI X, 4, .inl (upd (upd (fun _ => 0) 0 (-1)) 1 (-1))))] : va_W) from rfl) ?_
  refine w_dup (by decide +kernel : decode prog_6_method_1_code 16 = .ok (.dup, 1)) rfl ?_
  refine w_iconst (v := nI 2) (by decide +kernel : decode prog_6_method_1_code 17 = .ok (.iconst 2, 1)) (by decide) ?_
  refine w_iconst (v := (-1)) (by decide +kernel : decode prog_6_method_1_code 18 = .ok (.iconst (-1), 1)) (by decide) ?_
  refine w_iast (j := 2) (q0 := 1) (by decide +kernel : decode prog_6_method_1_code 19 = .ok (.iastore, 1)) rfl rfl (by decide) (by decide) ?_
  refine w_ws (show _ = ([(h0, .inr (6, [.null, .null, .null])), (q6, .inl (xI X, 4, .inl (upd (upd (upd (fun _ => 0) 0 (-1)) 1 (-1)) 2 (-1))))] : va_W) from rfl) ?_
  refine w_dup (by decide +kernel : decode prog_6_method_1_code 20 = .ok (.dup, 1)) rfl ?_
  refine w_iconst (v := nI 3) (by decide +kernel : decode prog_6_method_1_code 21 = .ok (.iconst 3, 1)) (by decide) ?_
  refine w_iconst (v := (-1)) (by decide +kernel : decode prog_6_method_1_code 22 = .ok (.iconst (-1), 1)) (by decide) ?_
  refine w_iast (j := 3) (q0 := 1) (by decide +kernel : decode prog_6_method_1_code 23 = .ok (.iastore, 1)) rfl rfl (by decide) (by decide) ?_
  refine w_ws (show _ = ([(h0, .inr (6, [.null, .null, .null])), (q6, .inl (xI X, 4, .inl (upd (upd (upd (upd (fun _ => 0) 0 (-1)) 1 (-1)) 2 (-1)) 3 (-1))))] : va_W) from rfl) ?_
  refine w_put (q0 := 0) (ty := .array .int) (by decide +kernel : decode prog_6_method_1_code 24 = .ok (.putfield 11, 3)) rfl fl_Sv_11 (fun C T N h => by cases h; exact Or.inr ⟨rfl, rfl⟩) (by decide +kernel) rfl rfl rfl (Nat.le_of_ble_eq_true rfl) ?_
  refine w_ws (show _ = ([(h0, .inr (6, [.ref q6, .null, .null])), (q6, .inl (xI X, 4, .inl (upd (upd (upd (upd (fun _ => 0) 0 (-1)) 1 (-1)) 2 (-1)) 3 (-1))))] : va_W) from rfl) ?_
  refine w_aload_n (by decide +kernel : decode prog_6_method_1_code 27 = .ok (.aload_n 0, 1)) rfl ?_
  refine w_iconst (v := nI 4) (by decide +kernel : decode prog_6_method_1_code 28 = .ok (.iconst 4, 1)) (by decide) ?_
  refine w_newI (N := 4) (by decide +kernel : decode prog_6_method_1_code 29 = .ok (.newarray .int, 2)) rfl (by decide) (by decide) (by decide) (fun q29 => ?_)
  refine w_ws (show _ = ([(h0, .inr (6, [.ref q6, .null, .null])), (q6, .inl (xI X, 4, .inl (upd (upd (upd (upd (fun _ => 0) 0 (-1)) 1 (-1)) 2 (-1)) 3 (-1)))), (q29, .inl (xI X, 4, .inl (fun _ => 0)))] : va_W) from rfl) ?_
  refine w_dup (by decide +kernel : decode prog_6_method_1_code 31 = .ok (.dup, 1)) rfl ?_
  refine w_iconst (v := nI 0) (by decide +kernel : decode prog_6_method_1_code 32 = .ok (.iconst 0, 1)) (by decide) ?_
  refine w_iconst (v := (-1)) (by decide +kernel : decode prog_6_method_1_code 33 = .ok (.iconst (-1), 1)) (by decide) ?_
  refine w_iast (j := 0) (q0 := 2) (by decide +kernel : decode prog_6_method_1_code 34 = .ok (.iastore, 1)) rfl rfl (by decide) (by decide) ?_
  refine w_ws (show _ = ([(h0, .inr (6, [.ref q6, .null, .null])), (q6, .inl (xI X, 4, .inl (upd (upd (upd (upd (fun _ => 0) 0 (-1)) 1 (-1)) 2 (-1)) 3 (-1)))), (q29, .inl (xI X, 4, .inl (upd (fun _ => 0) 0 (-1))))] : va_W) from rfl) ?_
  refine w_dup (by decide +kernel : decode prog_6_method_1_code 35 = .ok (.dup, 1)) rfl ?_
  refine w_iconst (v := nI 1) (by decide +kernel : decode prog_6_method_1_code 36 = .ok (.iconst 1, 1)) (by decide) ?_
  refine w_iconst (v := (-1)) (by decide +kernel : decode prog_6_method_1_code 37 = .ok (.iconst (-1), 1)) (by decide) ?_
  refine w_iast (j := 1) (q0 := 2) (by decide +kernel : decode prog_6_method_1_code 38 = .ok (.iastore, 1)) rfl rfl (by decide) (by decide) ?_
  refine w_ws (show _ = ([(h0, .inr (6, [.ref q6, .null, .null])), (q6, .inl (xI X, 4, .inl (upd (upd (upd (upd (fun _ => 0) 0 (-1)) 1 (-1)) 2 (-1)) 3 (-1)))), (q29, .inl (xI X, 4, .inl (upd (upd (fun _ => 0) 0 (-1)) 1 (-1))))] : va_W) from rfl) ?_
  refine w_dup (by decide +kernel : decode prog_6_method_1_code 39 = .ok (.dup, 1)) rfl ?_
  refine w_iconst (v := nI 2) (by decide +kernel : decode prog_6_method_1_code 40 = .ok (.iconst 2, 1)) (by decide) ?_
  refine w_iconst (v := (-1)) (by decide +kernel : decode prog_6_method_1_code 41 = .ok (.iconst (-1), 1)) (by decide) ?_
  refine w_iast (j := 2) (q0 := 2) (by decide +kernel : decode prog_6_method_1_code 42 = .ok (.iastore, 1)) rfl rfl (by decide) (by decide) ?_
  refine w_ws (show _ = ([(h0, .inr (6, [.ref q6, .null, .null])), (q6, .inl (xI X, 4, .inl (upd (upd (upd (upd (fun _ => 0) 0 (-1)) 1 (-1)) 2 (-1)) 3 (-1)))), (q29, .inl (xI X, 4, .inl (upd (upd (upd (fun _ => 0) 0 (-1)) 1 (-1)) 2 (-1))))] : va_W) from rfl) ?_
  refine w_dup (by decide +kernel : decode prog_6_method_1_code 43 = .ok (.dup, 1)) rfl ?_
  refine w_iconst (v := nI 3) (by decide +kernel : decode prog_6_method_1_code 44 = .ok (.iconst 3, 1)) (by decide) ?_
  refine w_iconst (v := (-1)) (by decide +kernel : decode prog_6_method_1_code 45 = .ok (.iconst (-1), 1)) (by decide) ?_
  refine w_iast (j := 3) (q0 := 2) (by decide +kernel : decode prog_6_method_1_code 46 = .ok (.iastore, 1)) rfl rfl (by decide) (by decide) ?_
  refine w_ws (show _ = ([(h0, .inr (6, [.ref q6, .null, .null])), (q6, .inl (xI X, 4, .inl (upd (upd (upd (upd (fun _ => 0) 0 (-1)) 1 (-1)) 2 (-1)) 3 (-1)))), (q29, .inl (xI X, 4, .inl (upd (upd (upd (upd (fun _ => 0) 0 (-1)) 1 (-1)) 2 (-1)) 3 (-1))))] : va_W) from rfl) ?_
  refine w_put (q0 := 0) (ty := .array .int) (by decide +kernel : decode prog_6_method_1_code 47 = .ok (.putfield 15, 3)) rfl fl_Sv_15 (fun C T N h => by cases h; exact Or.inr ⟨rfl, rfl⟩) (by decide +kernel) rfl rfl rfl (Nat.le_of_ble_eq_true rfl) ?_
  refine w_ws (show _ = ([(h0, .inr (6, [.ref q6, .ref q29, .null])), (q6, .inl (xI X, 4, .inl (upd (upd (upd (upd (fun _ => 0) 0 (-1)) 1 (-1)) 2 (-1)) 3 (-1)))), (q29, .inl (xI X, 4, .inl (upd (upd (upd (upd (fun _ => 0) 0 (-1)) 1 (-1)) 2 (-1)) 3 (-1))))] : va_W) from rfl) ?_
  refine w_aload_n (by decide +kernel : decode prog_6_method_1_code 50 = .ok (.aload_n 0, 1)) rfl ?_
  refine w_iconst (v := nI 4) (by decide +kernel : decode prog_6_method_1_code 51 = .ok (.iconst 4, 1)) (by decide) ?_
  refine w_newI (N := 4) (by decide +kernel : decode prog_6_method_1_code 52 = .ok (.newarray .int, 2)) rfl (by decide) (by decide) (by decide) (fun q52 => ?_)
  refine w_ws (show _ = ([(h0, .inr (6, [.ref q6, .ref q29, .null])), (q6, .inl (xI X, 4, .inl (upd (upd (upd (upd (fun _ => 0) 0 (-1)) 1 (-1)) 2 (-1)) 3 (-1)))), (q29, .inl (xI X, 4, .inl (upd (upd (upd (upd (fun _ => 0) 0 (-1)) 1 (-1)) 2 (-1)) 3 (-1)))), (q52, .inl (xI X, 4, .inl (fun _ => 0)))] : va_W) from rfl) ?_
  refine w_put (q0 := 0) (ty := .array .int) (by decide +kernel : decode prog_6_method_1_code 54 = .ok (.putfield 18, 3)) rfl fl_Sv_18 (fun C T N h => by cases h; exact Or.inr ⟨rfl, rfl⟩) (by decide +kernel) rfl rfl rfl (Nat.le_of_ble_eq_true rfl) ?_
  refine w_ws (show _ = ([(h0, .inr (6, [.ref q6, .ref q29, .ref q52])), (q6, .inl (xI X, 4, .inl (upd (upd (upd (upd (fun _ => 0) 0 (-1)) 1 (-1)) 2 (-1)) 3 (-1)))), (q29, .inl (xI X, 4, .inl (upd (upd (upd (upd (fun _ => 0) 0 (-1)) 1 (-1)) 2 (-1)) 3 (-1)))), (q52, .inl (xI X, 4, .inl (fun _ => 0)))] : va_W) from rfl) ?_
  exact w_ret hR (by decide +kernel : decode prog_6_method_1_code 57 = .ok (.return_, 1)) (by decide) (by decide) (mkA (xA X) [h0, q6, q29, q52]) (mkS [fun _ => 0, (upd (upd (upd (upd (fun _ => 0) 0 (-1)) 1 (-1)) 2 (-1)) 3 (-1)), (upd (upd (upd (upd (fun _ => 0) 0 (-1)) 1 (-1)) 2 (-1)) 3 (-1)), (fun _ => 0)]) rfl (fun i hi => ⟨by rcases (show i = 0 ∨ i = 1 ∨ i = 2 ∨ i = 3 by omega) with rfl | rfl | rfl | rfl <;> rfl, by rcases (show i = 0 ∨ i = 1 ∨ i = 2 ∨ i = 3 by omega) with rfl | rfl | rfl | rfl <;> rfl⟩) rfl
set_option maxRecDepth 20000 in
theorem i_init_Ac : Ci ΛA 7 [.null, .int 0, .int 0, .int 0, .int 0, .int 0] mt_Ac_init 1 1 30 (fun σ => σ 0 1 = nI 0) := by
  refine Ci.of (by decide) rfl (by decide) rfl (fun X h0 hR => ?_)
  show GW (mt_Ac_init, 1, 1, 30) X [(h0, .inr (7, [.null, .int 0, .int 0, .int 0, .int 0, .int 0]))] 0 0 [some (.ref h0)] [] 0
  refine w_aload_n (by decide +kernel : decode prog_2_method_1_code 0 = .ok (.aload_n 0, 1)) rfl ?_
  refine w_obj (by decide +kernel : decode prog_2_method_1_code 1 = .ok (.invokespecial 3, 3)) lo_Ac_3 (by decide) (by decide) ?_
  refine w_aload_n (by decide +kernel : decode prog_2_method_1_code 4 = .ok (.aload_n 0, 1)) rfl ?_
  refine w_bipush (v := nI 30) (by decide +kernel : decode prog_2_method_1_code 5 = .ok (.bipush 30, 2)) (by decide) ?_
  refine w_newI (N := 30) (by decide +kernel : decode prog_2_method_1_code 7 = .ok (.newarray .int, 2)) rfl (by decide) (by decide) (by decide) (fun q7 => ?_)
  refine w_ws (show _ = ([(h0, .inr (7, [.null, .int 0, .int 0, .int 0, .int 0, .int 0])), (q7, .inl (xI X, 30, .inl (fun _ => 0)))] : va_W) from rfl) ?_
  refine w_put (q0 := 0) (ty := .array .int) (by decide +kernel : decode prog_2_method_1_code 9 = .ok (.putfield 9, 3)) rfl fl_Ac_9 (fun C T N h => by cases h; exact Or.inr ⟨rfl, rfl⟩) (by decide +kernel) rfl rfl rfl (Nat.le_of_ble_eq_true rfl) ?_
  refine w_ws (show _ = ([(h0, .inr (7, [.ref q7, .int 0, .int 0, .int 0, .int 0, .int 0])), (q7, .inl (xI X, 30, .inl (fun _ => 0)))] : va_W) from rfl) ?_
  exact w_ret hR (by decide +kernel : decode prog_2_method_1_code 12 = .ok (.return_, 1)) (by decide) (by decide) (mkA (xA X) [h0, q7]) (mkS [fun _ => 0, (fun _ => 0)]) rfl (rfl) rfl
abbrev z0 : Row := fun _ => 0
abbrev g0 : Row := upd (beg z0) 2 (nI 1)
set_option maxRecDepth 20000 in
theorem i_init_Pk : Ci ΛP 1 [.null, .null, .null, .null, .null, .null, .null, .null, .int 0, .int 0, .int 0, .int 0] mt_Pk_init 1 8 64 (fun σ => RP σ g0) := by
  refine Ci.of (by decide) rfl (by decide) rfl (fun X h0 hR => ?_)
  show GW (mt_Pk_init, 1, 8, 64) X [(h0, .inr (1, [.null, .null, .null, .null, .null, .null, .null, .null, .int 0, .int 0, .int 0, .int 0]))] 0 0 [some (.ref h0)] [] 0
  refine w_aload_n (by decide +kernel : decode prog_3_method_1_code 0 = .ok (.aload_n 0, 1)) rfl ?_
  refine w_obj (by decide +kernel : decode prog_3_method_1_code 1 = .ok (.invokespecial 3, 3)) lo_Pk_3 (by decide) (by decide) ?_
  refine w_aload_n (by decide +kernel : decode prog_3_method_1_code 4 = .ok (.aload_n 0, 1)) rfl ?_
  refine w_iconst (v := nI 4) (by decide +kernel : decode prog_3_method_1_code 5 = .ok (.iconst 4, 1)) (by decide) ?_
  refine w_newI (N := 4) (by decide +kernel : decode prog_3_method_1_code 6 = .ok (.newarray .int, 2)) rfl (by decide) (by decide) (by decide) (fun q6 => ?_)
  refine w_ws (show _ = ([(h0, .inr (1, [.null, .null, .null, .null, .null, .null, .null, .null, .int 0, .int 0, .int 0, .int 0])), (q6, .inl (xI X, 4, .inl (fun _ => 0)))] : va_W) from rfl) ?_
  refine w_put (q0 := 0) (ty := .array .int) (by decide +kernel : decode prog_3_method_1_code 8 = .ok (.putfield 9, 3)) rfl fl_Pk_9 (fun C T N h => by cases h; exact Or.inr ⟨rfl, rfl⟩) (by decide +kernel) rfl rfl rfl (Nat.le_of_ble_eq_true rfl) ?_
  refine w_ws (show _ = ([(h0, .inr (1, [.ref q6, .null, .null, .null, .null, .null, .null, .null, .int 0, .int 0, .int 0, .int 0])), (q6, .inl (xI X, 4, .inl (fun _ => 0)))] : va_W) from rfl) ?_
  refine w_aload_n (by decide +kernel : decode prog_3_method_1_code 11 = .ok (.aload_n 0, 1)) rfl ?_
  refine w_bipush (v := nI 12) (by decide +kernel : decode prog_3_method_1_code 12 = .ok (.bipush 12, 2)) (by decide) ?_
  refine w_newI (N := 12) (by decide +kernel : decode prog_3_method_1_code 14 = .ok (.newarray .int, 2)) rfl (by decide) (by decide) (by decide) (fun q14 => ?_)
  refine w_ws (show _ = ([(h0, .inr (1, [.ref q6, .null, .null, .null, .null, .null, .null, .null, .int 0, .int 0, .int 0, .int 0])), (q6, .inl (xI X, 4, .inl (fun _ => 0))), (q14, .inl (xI X, 12, .inl (fun _ => 0)))] : va_W) from rfl) ?_
  refine w_put (q0 := 0) (ty := .array .int) (by decide +kernel : decode prog_3_method_1_code 16 = .ok (.putfield 15, 3)) rfl fl_Pk_15 (fun C T N h => by cases h; exact Or.inr ⟨rfl, rfl⟩) (by decide +kernel) rfl rfl rfl (Nat.le_of_ble_eq_true rfl) ?_
  refine w_ws (show _ = ([(h0, .inr (1, [.ref q6, .ref q14, .null, .null, .null, .null, .null, .null, .int 0, .int 0, .int 0, .int 0])), (q6, .inl (xI X, 4, .inl (fun _ => 0))), (q14, .inl (xI X, 12, .inl (fun _ => 0)))] : va_W) from rfl) ?_
  refine w_aload_n (by decide +kernel : decode prog_3_method_1_code 19 = .ok (.aload_n 0, 1)) rfl ?_
  refine w_bipush (v := nI 8) (by decide +kernel : decode prog_3_method_1_code 20 = .ok (.bipush 8, 2)) (by decide) ?_
  refine w_newI (N := 8) (by decide +kernel : decode prog_3_method_1_code 22 = .ok (.newarray .int, 2)) rfl (by decide) (by decide) (by decide) (fun q22 => ?_)
  refine w_ws (show _ = ([(h0, .inr (1, [.ref q6, .ref q14, .null, .null, .null, .null, .null, .null, .int 0, .int 0, .int 0, .int 0])), (q6, .inl (xI X, 4, .inl (fun _ => 0))), (q14, .inl (xI X, 12, .inl (fun _ => 0))), (q22, .inl (xI X, 8, .inl (fun _ => 0)))] : va_W) from rfl) ?_
  refine w_put (q0 := 0) (ty := .array .int) (by decide +kernel : decode prog_3_method_1_code 24 = .ok (.putfield 18, 3)) rfl fl_Pk_18 (fun C T N h => by cases h; exact Or.inr ⟨rfl, rfl⟩) (by decide +kernel) rfl rfl rfl (Nat.le_of_ble_eq_true rfl) ?_
  refine w_ws (show _ = ([(h0, .inr (1, [.ref q6, .ref q14, .ref q22, .null, .null, .null, .null, .null, .int 0, .int 0, .int 0, .int 0])), (q6, .inl (xI X, 4, .inl (fun _ => 0))), (q14, .inl (xI X, 12, .inl (fun _ => 0))), (q22, .inl (xI X, 8, .inl (fun _ => 0)))] : va_W) from rfl) ?_
  refine w_aload_n (by decide +kernel : decode prog_3_method_1_code 27 = .ok (.aload_n 0, 1)) rfl ?_
  refine w_bipush (v := nI 8) (by decide +kernel : decode prog_3_method_1_code 28 = .ok (.bipush 8, 2)) (by decide) ?_
  refine w_newI (N := 8) (by decide +kernel : decode prog_3_method_1_code 30 = .ok (.newarray .int, 2)) rfl (by decide) (by decide) (by decide) (fun q30 => ?_)
  refine w_ws (show _ = ([(h0, .inr (1, [.ref q6, .ref q14, .ref q22, .null, .null, .null, .null, .null, .int 0, .int 0, .int 0, .int 0])), (q6, .inl (xI X, 4, .inl (fun _ => 0))), (q14, .inl (xI X, 12, .inl (fun _ => 0))), (q22, .inl (xI X, 8, .inl (fun _ => 0))), (q30, .inl (xI X, 8, .inl (fun _ => 0)))] : va_W) from rfl) ?_
  refine w_put (q0 := 0) (ty := .array .int) (by decide +kernel : decode prog_3_method_1_code 32 = .ok (.putfield 21, 3)) rfl fl_Pk_21 (fun C T N h => by cases h; exact Or.inr ⟨rfl, rfl⟩) (by decide +kernel) rfl rfl rfl (Nat.le_of_ble_eq_true rfl) ?_
  refine w_ws (show _ = ([(h0, .inr (1, [.ref q6, .ref q14, .ref q22, .ref q30, .null, .null, .null, .null, .int 0, .int 0, .int 0, .int 0])), (q6, .inl (xI X, 4, .inl (fun _ => 0))), (q14, .inl (xI X, 12, .inl (fun _ => 0))), (q22, .inl (xI X, 8, .inl (fun _ => 0))), (q30, .inl (xI X, 8, .inl (fun _ => 0)))] : va_W) from rfl) ?_
  refine w_aload_n (by decide +kernel : decode prog_3_method_1_code 35 = .ok (.aload_n 0, 1)) rfl ?_
  refine w_bipush (v := nI 8) (by decide +kernel : decode prog_3_method_1_code 36 = .ok (.bipush 8, 2)) (by decide) ?_
  refine w_newI (N := 8) (by decide +kernel : decode prog_3_method_1_code 38 = .ok (.newarray .int, 2)) rfl (by decide) (by decide) (by decide) (fun q38 => ?_)
  refine w_ws (show _ = ([(h0, .inr (1, [.ref q6, .ref q14, .ref q22, .ref q30, .null, .null, .null, .null, .int 0, .int 0, .int 0, .int 0])), (q6, .inl (xI X, 4, .inl (fun _ => 0))), (q14, .inl (xI X, 12, .inl (fun _ => 0))), (q22, .inl (xI X, 8, .inl (fun _ => 0))), (q30, .inl (xI X, 8, .inl (fun _ => 0))), (q38, .inl (xI X, 8, .inl (fun _ => 0)))] : va_W) from rfl) ?_
  refine w_put (q0 := 0) (ty := .array .int) (by decide +kernel : decode prog_3_method_1_code 40 = .ok (.putfield 24, 3)) rfl fl_Pk_24 (fun C T N h => by cases h; exact Or.inr ⟨rfl, rfl⟩) (by decide +kernel) rfl rfl rfl (Nat.le_of_ble_eq_true rfl) ?_
  refine w_ws (show _ = ([(h0, .inr (1, [.ref q6, .ref q14, .ref q22, .ref q30, .ref q38, .null, .null, .null, .int 0, .int 0, .int 0, .int 0])), (q6, .inl (xI X, 4, .inl (fun _ => 0))), (q14, .inl (xI X, 12, .inl (fun _ => 0))), (q22, .inl (xI X, 8, .inl (fun _ => 0))), (q30, .inl (xI X, 8, .inl (fun _ => 0))), (q38, .inl (xI X, 8, .inl (fun _ => 0)))] : va_W) from rfl) ?_
  refine w_aload_n (by decide +kernel : decode prog_3_method_1_code 43 = .ok (.aload_n 0, 1)) rfl ?_
  refine w_bipush (v := nI 8) (by decide +kernel : decode prog_3_method_1_code 44 = .ok (.bipush 8, 2)) (by decide) ?_
  refine w_newI (N := 8) (by decide +kernel : decode prog_3_method_1_code 46 = .ok (.newarray .int, 2)) rfl (by decide) (by decide) (by decide) (fun q46 => ?_)
  refine w_ws (show _ = ([(h0, .inr (1, [.ref q6, .ref q14, .ref q22, .ref q30, .ref q38, .null, .null, .null, .int 0, .int 0, .int 0, .int 0])), (q6, .inl (xI X, 4, .inl (fun _ => 0))), (q14, .inl (xI X, 12, .inl (fun _ => 0))), (q22, .inl (xI X, 8, .inl (fun _ => 0))), (q30, .inl (xI X, 8, .inl (fun _ => 0))), (q38, .inl (xI X, 8, .inl (fun _ => 0))), (q46, .inl (xI X, 8, .inl (fun _ => 0)))] : va_W) from rfl) ?_
  refine w_put (q0 := 0) (ty := .array .int) (by decide +kernel : decode prog_3_method_1_code 48 = .ok (.putfield 27, 3)) rfl fl_Pk_27 (fun C T N h => by cases h; exact Or.inr ⟨rfl, rfl⟩) (by decide +kernel) rfl rfl rfl (Nat.le_of_ble_eq_true rfl) ?_
  refine w_ws (show _ = ([(h0, .inr (1, [.ref q6, .ref q14, .ref q22, .ref q30, .ref q38, .ref q46, .null, .null, .int 0, .int 0, .int 0, .int 0])), (q6, .inl (xI X, 4, .inl (fun _ => 0))), (q14, .inl (xI X, 12, .inl (fun _ => 0))), (q22, .inl (xI X, 8, .inl (fun _ => 0))), (q30, .inl (xI X, 8, .inl (fun _ => 0))), (q38, .inl (xI X, 8, .inl (fun _ => 0))), (q46, .inl (xI X, 8, .inl (fun _ => 0)))] : va_W) from rfl) ?_
  refine w_aload_n (by decide +kernel : decode prog_3_method_1_code 51 = .ok (.aload_n 0, 1)) rfl ?_
  refine w_bipush (v := nI 8) (by decide +kernel : decode prog_3_method_1_code 52 = .ok (.bipush 8, 2)) (by decide) ?_
  refine w_newI (N := 8) (by decide +kernel : decode prog_3_method_1_code 54 = .ok (.newarray .int, 2)) rfl (by decide) (by decide) (by decide) (fun q54 => ?_)
  refine w_ws (show _ = ([(h0, .inr (1, [.ref q6, .ref q14, .ref q22, .ref q30, .ref q38, .ref q46, .null, .null, .int 0, .int 0, .int 0, .int 0])), (q6, .inl (xI X, 4, .inl (fun _ => 0))), (q14, .inl (xI X, 12, .inl (fun _ => 0))), (q22, .inl (xI X, 8, .inl (fun _ => 0))), (q30, .inl (xI X, 8, .inl (fun _ => 0))), (q38, .inl (xI X, 8, .inl (fun _ => 0))), (q46, .inl (xI X, 8, .inl (fun _ => 0))), (q54, .inl (xI X, 8, .inl (fun _ => 0)))] : va_W) from rfl) ?_
  refine w_put (q0 := 0) (ty := .array .int) (by decide +kernel : decode prog_3_method_1_code 56 = .ok (.putfield 30, 3)) rfl fl_Pk_30 (fun C T N h => by cases h; exact Or.inr ⟨rfl, rfl⟩) (by decide +kernel) rfl rfl rfl (Nat.le_of_ble_eq_true rfl) ?_
  refine w_ws (show _ = ([(h0, .inr (1, [.ref q6, .ref q14, .ref q22, .ref q30, .ref q38, .ref q46, .ref q54, .null, .int 0, .int 0, .int 0, .int 0])), (q6, .inl (xI X, 4, .inl (fun _ => 0))), (q14, .inl (xI X, 12, .inl (fun _ => 0))), (q22, .inl (xI X, 8, .inl (fun _ => 0))), (q30, .inl (xI X, 8, .inl (fun _ => 0))), (q38, .inl (xI X, 8, .inl (fun _ => 0))), (q46, .inl (xI X, 8, .inl (fun _ => 0))), (q54, .inl (xI X, 8, .inl (fun _ => 0)))] : va_W) from rfl) ?_
  refine w_aload_n (by decide +kernel : decode prog_3_method_1_code 59 = .ok (.aload_n 0, 1)) rfl ?_
  refine w_bipush (v := nI 8) (by decide +kernel : decode prog_3_method_1_code 60 = .ok (.bipush 8, 2)) (by decide) ?_
  refine w_newI (N := 8) (by decide +kernel : decode prog_3_method_1_code 62 = .ok (.newarray .int, 2)) rfl (by decide) (by decide) (by decide) (fun q62 => ?_)
  refine w_ws (show _ = ([(h0, .inr (1, [.ref q6, .ref q14, .ref q22, .ref q30, .ref q38, .ref q46, .ref q54, .null, .int 0, .int 0, .int 0, .int 0])), (q6, .inl (xI X, 4, .inl (fun _ => 0))), (q14, .inl (xI X, 12, .inl (fun _ => 0))), (q22, .inl (xI X, 8, .inl (fun _ => 0))), (q30, .inl (xI X, 8, .inl (fun _ => 0))), (q38, .inl (xI X, 8, .inl (fun _ => 0))), (q46, .inl (xI X, 8, .inl (fun _ => 0))), (q54, .inl (xI X, 8, .inl (fun _ => 0))), (q62, .inl (xI X, 8, .inl (fun _ => 0)))] : va_W) from rfl) ?_
  refine w_put (q0 := 0) (ty := .array .int) (by decide +kernel : decode prog_3_method_1_code 64 = .ok (.putfield 33, 3)) rfl fl_Pk_33 (fun C T N h => by cases h; exact Or.inr ⟨rfl, rfl⟩) (by decide +kernel) rfl rfl rfl (Nat.le_of_ble_eq_true rfl) ?_
  refine w_ws (show _ = ([(h0, .inr (1, [.ref q6, .ref q14, .ref q22, .ref q30, .ref q38, .ref q46, .ref q54, .ref q62, .int 0, .int 0, .int 0, .int 0])), (q6, .inl (xI X, 4, .inl (fun _ => 0))), (q14, .inl (xI X, 12, .inl (fun _ => 0))), (q22, .inl (xI X, 8, .inl (fun _ => 0))), (q30, .inl (xI X, 8, .inl (fun _ => 0))), (q38, .inl (xI X, 8, .inl (fun _ => 0))), (q46, .inl (xI X, 8, .inl (fun _ => 0))), (q54, .inl (xI X, 8, .inl (fun _ => 0))), (q62, .inl (xI X, 8, .inl (fun _ => 0)))] : va_W) from rfl) ?_
  refine w_aload_n (by decide +kernel : decode prog_3_method_1_code 67 = .ok (.aload_n 0, 1)) rfl ?_
  refine w_iconst (v := nI 1) (by decide +kernel : decode prog_3_method_1_code 68 = .ok (.iconst 1, 1)) (by decide) ?_
  refine w_put (q0 := 0) (ty := .int) (by decide +kernel : decode prog_3_method_1_code 69 = .ok (.putfield 36, 3)) rfl fl_Pk_36.get (fun C T N h => by cases h; exact Or.inl rfl) (by decide +kernel) rfl rfl rfl (Nat.le_of_ble_eq_true rfl) ?_
  refine w_ws (show _ = ([(h0, .inr (1, [.ref q6, .ref q14, .ref q22, .ref q30, .ref q38, .ref q46, .ref q54, .ref q62, .int 0, .int 0, .int 0, .int (nI 1)])), (q6, .inl (xI X, 4, .inl (fun _ => 0))), (q14, .inl (xI X, 12, .inl (fun _ => 0))), (q22, .inl (xI X, 8, .inl (fun _ => 0))), (q30, .inl (xI X, 8, .inl (fun _ => 0))), (q38, .inl (xI X, 8, .inl (fun _ => 0))), (q46, .inl (xI X, 8, .inl (fun _ => 0))), (q54, .inl (xI X, 8, .inl (fun _ => 0))), (q62, .inl (xI X, 8, .inl (fun _ => 0)))] : va_W) from rfl) ?_
  refine w_aload_n (by decide +kernel : decode prog_3_method_1_code 72 = .ok (.aload_n 0, 1)) rfl ?_
  refine w_callV (ad' := mkA (xA X) [h0, q6, q14, q22, q30, q38, q46, q54, q62]) (σ := mkS [fun j => if j = 11 then nI 1 else 0]) (by decide +kernel : decode prog_3_method_1_code 73 = .ok (.invokevirtual 40, 3)) lk_Pk_40 (c_begins _ z0) rfl rfl rfl rfl (fun k hk => if_neg (by omega)) (by decide) (by decide) (by decide) (fun σ1 h1 => ?_)
  exact w_ret hR (by decide +kernel : decode prog_3_method_1_code 76 = .ok (.return_, 1)) (by decide) (by decide) (mkA (xA X) [h0, q6, q14, q22, q30, q38, q46, q54, q62]) σ1 rfl h1.1 rfl
set_option maxRecDepth 20000 in
theorem i_init_Tr : Ci ΛTr 2 [.null, .null] mt_Tr_init 2 18 152 (fun σ => RP (fun k => σ (1 + k)) g0 ∧ RP (fun k => σ (10 + k)) g0) := by
  refine Ci.of (by decide) rfl (by decide) rfl (fun X h0 hR => ?_)
  show GW (mt_Tr_init, 2, 18, 152) X [(h0, .inr (2, [.null, .null]))] 0 0 [some (.ref h0)] [] 0
  refine w_aload_n (by decide +kernel : decode prog_8_method_1_code 0 = .ok (.aload_n 0, 1)) rfl ?_
  refine w_obj (by decide +kernel : decode prog_8_method_1_code 1 = .ok (.invokespecial 3, 3)) lo_Tr_3 (by decide) (by decide) ?_
  refine w_aload_n (by decide +kernel : decode prog_8_method_1_code 4 = .ok (.aload_n 0, 1)) rfl ?_
  refine w_new (ci := 1) (C := R_Pk) (T := F_Pk) (N := 12) (ty := t_Pk) (fs := [.null, .null, .null, .null, .null, .null, .null, .null, .int 0, .int 0, .int 0, .int 0]) (by decide +kernel : decode prog_8_method_1_code 5 = .ok (.new 9, 3)) rfl i_Pk t_Pk_ok lc_Tr_9 df_Pk (by decide) (by decide) (fun q5 => ?_)
  refine w_ws (show _ = ([(h0, .inr (2, [.null, .null])), (q5, .inr (1, [.null, .null, .null, .null, .null, .null, .null, .null, .int 0, .int 0, .int 0, .int 0]))] : va_W) from rfl) ?_
  refine w_dup (by decide +kernel : decode prog_8_method_1_code 8 = .ok (.dup, 1)) rfl ?_
  refine w_init (ws0 := ([(h0, .inr (2, [.null, .null]))] : va_W)) (q := q5) (by decide +kernel : decode prog_8_method_1_code 9 = .ok (.invokespecial 11, 3)) lm_Tr_11 li_Pk i_init_Pk rfl (Nat.le_of_ble_eq_true rfl) (by decide) (by decide) (by decide) (fun a9 t9 e9 p9 => ?_)
  rw [← e9]
  refine w_ws (show _ = (([(h0, .inr (2, [.null, .null]))]) ++ (wr (xI X) (xB X) a9 t9 0 ΛP) : va_W) from rfl) ?_
  refine w_put (q0 := 0) (ty := .object "LateSeekers$Park") (by decide +kernel : decode prog_8_method_1_code 12 = .ok (.putfield 12, 3)) rfl fl_Tr_12 (fun C T N h => by cases h; exact Or.inr ⟨rfl, rfl⟩) (by decide +kernel) rfl rfl rfl (Nat.le_of_ble_eq_true rfl) ?_
  refine w_ws (show _ = (([(h0, .inr (2, [.ref (a9 0), .null]))]) ++ (wr (xI X) (xB X) a9 t9 0 ΛP) : va_W) from rfl) ?_
  refine w_aload_n (by decide +kernel : decode prog_8_method_1_code 15 = .ok (.aload_n 0, 1)) rfl ?_
  refine w_new (ci := 1) (C := R_Pk) (T := F_Pk) (N := 12) (ty := t_Pk) (fs := [.null, .null, .null, .null, .null, .null, .null, .null, .int 0, .int 0, .int 0, .int 0]) (by decide +kernel : decode prog_8_method_1_code 16 = .ok (.new 9, 3)) rfl i_Pk t_Pk_ok lc_Tr_9 df_Pk (by decide) (by decide) (fun q16 => ?_)
  refine w_ws (show _ = ((([(h0, .inr (2, [.ref (a9 0), .null]))]) ++ (wr (xI X) (xB X) a9 t9 0 ΛP)) ++ ([(q16, .inr (1, [.null, .null, .null, .null, .null, .null, .null, .null, .int 0, .int 0, .int 0, .int 0]))]) : va_W) from rfl) ?_
  refine w_dup (by decide +kernel : decode prog_8_method_1_code 19 = .ok (.dup, 1)) rfl ?_
  refine w_init (ws0 := (([(h0, .inr (2, [.ref (a9 0), .null]))]) ++ (wr (xI X) (xB X) a9 t9 0 ΛP) : va_W)) (q := q16) (by decide +kernel : decode prog_8_method_1_code 20 = .ok (.invokespecial 11, 3)) lm_Tr_11 li_Pk i_init_Pk rfl (Nat.le_of_ble_eq_true rfl) (by decide) (by decide) (by decide) (fun a20 t20 e20 p20 => ?_)
  rw [← e20]
  refine w_ws (show _ = ((([(h0, .inr (2, [.ref (a9 0), .null]))]) ++ (wr (xI X) (xB X) a9 t9 0 ΛP)) ++ (wr (xI X) (xB X) a20 t20 0 ΛP) : va_W) from rfl) ?_
  refine w_put (q0 := 0) (ty := .object "LateSeekers$Park") (by decide +kernel : decode prog_8_method_1_code 23 = .ok (.putfield 18, 3)) rfl fl_Tr_18 (fun C T N h => by cases h; exact Or.inr ⟨rfl, rfl⟩) (by decide +kernel) rfl rfl rfl (Nat.le_of_ble_eq_true rfl) ?_
  refine w_ws (show _ = ((([(h0, .inr (2, [.ref (a9 0), .ref (a20 0)]))]) ++ (wr (xI X) (xB X) a9 t9 0 ΛP)) ++ (wr (xI X) (xB X) a20 t20 0 ΛP) : va_W) from rfl) ?_
  exact w_ret hR (by decide +kernel : decode prog_8_method_1_code 26 = .ok (.return_, 1)) (by decide) (by decide) (mkA (xA X) [h0, a9 0, a9 1, a9 2, a9 3, a9 4, a9 5, a9 6, a9 7, a9 8, a20 0, a20 1, a20 2, a20 3, a20 4, a20 5, a20 6, a20 7, a20 8]) (mkS [fun _ => 0, t9 0, t9 1, t9 2, t9 3, t9 4, t9 5, t9 6, t9 7, t9 8, t20 0, t20 1, t20 2, t20 3, t20 4, t20 5, t20 6, t20 7, t20 8]) rfl ⟨p9.cg (k8 rfl rfl rfl rfl rfl rfl rfl rfl), p20.cg (k8 rfl rfl rfl rfl rfl rfl rfl rfl)⟩ rfl
def CI (σ : Store) : Prop := RP (nV σ) g0 ∧ σ 0 2 = nI 0 ∧ σ 29 1 = nI 0 ∧ (σ 31 1 = nI 0 ∧ ∀ j, σ 32 j = nI 0) ∧ (∀ i, i < 4 → σ 34 i = -1 ∧ σ 35 i = nI 0) ∧ (∀ i, i < 4 → σ 38 i = -1 ∧ σ 39 i = -1) ∧ σ 41 1 = nI 0
set_option maxHeartbeats 4000000 in
set_option maxRecDepth 20000 in
theorem i_init_LS : Ci ΛC 0 [.null, .null, .int 0, .null, .null, .null, .null, .null, .null] mt_LS_init 3 42 690 (CI) := by
  refine Ci.of (by decide) rfl (by decide) rfl (fun X h0 hR => ?_)
  show GW (mt_LS_init, 3, 42, 690) X [(h0, .inr (0, [.null, .null, .int 0, .null, .null, .null, .null, .null, .null]))] 0 0 [some (.ref h0)] [] 0
  refine w_aload_n (by decide +kernel : decode prog_1_method_1_code 0 = .ok (.aload_n 0, 1)) rfl ?_
  refine w_obj (by decide +kernel : decode prog_1_method_1_code 1 = .ok (.invokespecial 3, 3)) lo_LS_3 (by decide) (by decide) ?_
  refine w_aload_n (by decide +kernel : decode prog_1_method_1_code 4 = .ok (.aload_n 0, 1)) rfl ?_
  refine w_new (ci := 2) (C := R_Tr) (T := F_Tr) (N := 2) (ty := t_Tr) (fs := [.null, .null]) (by decide +kernel : decode prog_1_method_1_code 5 = .ok (.new 9, 3)) rfl i_Tr t_Tr_ok lc_LS_9 df_Tr (by decide) (by decide) (fun q5 => ?_)
  refine w_ws (show _ = ([(h0, .inr (0, [.null, .null, .int 0, .null, .null, .null, .null, .null, .null])), (q5, .inr (2, [.null, .null]))] : va_W) from rfl) ?_
  refine w_dup (by decide +kernel : decode prog_1_method_1_code 8 = .ok (.dup, 1)) rfl ?_
  refine w_initN (ws0 := ([(h0, .inr (0, [.null, .null, .int 0, .null, .null, .null, .null, .null, .null]))] : va_W)) (q := q5) (by decide +kernel : decode prog_1_method_1_code 9 = .ok (.invokespecial 11, 3)) ⟨rfl, ln_11⟩ li_Tr i_init_Tr rfl (Nat.le_of_ble_eq_true rfl) (by decide) (by decide) (by decide) (fun a9 t9 e9 p9 => ?_)
  rw [← e9]
  refine w_ws (show _ = (([(h0, .inr (0, [.null, .null, .int 0, .null, .null, .null, .null, .null, .null]))]) ++ (wr (xI X) (xB X) a9 t9 0 ΛTr) : va_W) from rfl) ?_
  refine w_put (q0 := 0) (ty := .object "LateSeekers$Trials") (by decide +kernel : decode prog_1_method_1_code 12 = .ok (.putfield 12, 3)) rfl fl_LS_12 (fun C T N h => by cases h; exact Or.inr ⟨rfl, rfl⟩) (by decide +kernel) rfl rfl rfl (Nat.le_of_ble_eq_true rfl) ?_
  refine w_ws (show _ = (([(h0, .inr (0, [.null, .null, .int 0, .ref (a9 0), .null, .null, .null, .null, .null]))]) ++ (wr (xI X) (xB X) a9 t9 0 ΛTr) : va_W) from rfl) ?_
  refine w_aload_n (by decide +kernel : decode prog_1_method_1_code 15 = .ok (.aload_n 0, 1)) rfl ?_
  refine w_aload_n (by decide +kernel : decode prog_1_method_1_code 16 = .ok (.aload_n 0, 1)) rfl ?_
  refine w_get (q0 := 0) (v := .ref (a9 0)) (by decide +kernel : decode prog_1_method_1_code 17 = .ok (.getfield 12, 3)) fl_LS_12 rfl rfl ?_
  refine w_get (q0 := 1) (v := .ref (a9 1)) (by decide +kernel : decode prog_1_method_1_code 20 = .ok (.getfield 16, 3)) fl_LS_16 rfl rfl ?_
  refine w_put (q0 := 0) (ty := .object "LateSeekers$Park") (by decide +kernel : decode prog_1_method_1_code 23 = .ok (.putfield 20, 3)) rfl fl_LS_20 (fun C T N h => by cases h; exact Or.inr ⟨rfl, rfl⟩) (by decide +kernel) rfl rfl rfl (Nat.le_of_ble_eq_true rfl) ?_
  refine w_ws (show _ = (([(h0, .inr (0, [.ref (a9 1), .null, .int 0, .ref (a9 0), .null, .null, .null, .null, .null]))]) ++ (wr (xI X) (xB X) a9 t9 0 ΛTr) : va_W) from rfl) ?_
  refine w_aload_n (by decide +kernel : decode prog_1_method_1_code 26 = .ok (.aload_n 0, 1)) rfl ?_
  refine w_new (ci := 1) (C := R_Pk) (T := F_Pk) (N := 12) (ty := t_Pk) (fs := [.null, .null, .null, .null, .null, .null, .null, .null, .int 0, .int 0, .int 0, .int 0]) (by decide +kernel : decode prog_1_method_1_code 27 = .ok (.new 21, 3)) rfl i_Pk t_Pk_ok lc_LS_21 df_Pk (by decide) (by decide) (fun q27 => ?_)
  refine w_ws (show _ = ((([(h0, .inr (0, [.ref (a9 1), .null, .int 0, .ref (a9 0), .null, .null, .null, .null, .null]))]) ++ (wr (xI X) (xB X) a9 t9 0 ΛTr)) ++ ([(q27, .inr (1, [.null, .null, .null, .null, .null, .null, .null, .null, .int 0, .int 0, .int 0, .int 0]))]) : va_W) from rfl) ?_
  refine w_dup (by decide +kernel : decode prog_1_method_1_code 30 = .ok (.dup, 1)) rfl ?_
  refine w_init (ws0 := (([(h0, .inr (0, [.ref (a9 1), .null, .int 0, .ref (a9 0), .null, .null, .null, .null, .null]))]) ++ (wr (xI X) (xB X) a9 t9 0 ΛTr) : va_W)) (q := q27) (by decide +kernel : decode prog_1_method_1_code 31 = .ok (.invokespecial 23, 3)) lm_LS_23 li_Pk i_init_Pk rfl (Nat.le_of_ble_eq_true rfl) (by decide) (by decide) (by decide) (fun a31 t31 e31 p31 => ?_)
  rw [← e31]
  refine w_ws (show _ = ((([(h0, .inr (0, [.ref (a9 1), .null, .int 0, .ref (a9 0), .null, .null, .null, .null, .null]))]) ++ (wr (xI X) (xB X) a9 t9 0 ΛTr)) ++ (wr (xI X) (xB X) a31 t31 0 ΛP) : va_W) from rfl) ?_
  refine w_put (q0 := 0) (ty := .object "LateSeekers$Park") (by decide +kernel : decode prog_1_method_1_code 34 = .ok (.putfield 24, 3)) rfl fl_LS_24 (fun C T N h => by cases h; exact Or.inr ⟨rfl, rfl⟩) (by decide +kernel) rfl rfl rfl (Nat.le_of_ble_eq_true rfl) ?_
  refine w_ws (show _ = ((([(h0, .inr (0, [.ref (a9 1), .ref (a31 0), .int 0, .ref (a9 0), .null, .null, .null, .null, .null]))]) ++ (wr (xI X) (xB X) a9 t9 0 ΛTr)) ++ (wr (xI X) (xB X) a31 t31 0 ΛP) : va_W) from rfl) ?_
  refine w_aload_n (by decide +kernel : decode prog_1_method_1_code 37 = .ok (.aload_n 0, 1)) rfl ?_
  refine w_new (ci := 3) (C := R_Tp) (T := F_Tp) (N := 6) (ty := t_Tp) (fs := [.null, .int 0, .int 0, .int 0, .int 0, .int 0]) (by decide +kernel : decode prog_1_method_1_code 38 = .ok (.new 27, 3)) rfl i_Tp t_Tp_ok lc_LS_27 df_Tp (by decide) (by decide) (fun q38 => ?_)
  refine w_ws (show _ = (((([(h0, .inr (0, [.ref (a9 1), .ref (a31 0), .int 0, .ref (a9 0), .null, .null, .null, .null, .null]))]) ++ (wr (xI X) (xB X) a9 t9 0 ΛTr)) ++ (wr (xI X) (xB X) a31 t31 0 ΛP)) ++ ([(q38, .inr (3, [.null, .int 0, .int 0, .int 0, .int 0, .int 0]))]) : va_W) from rfl) ?_
  refine w_dup (by decide +kernel : decode prog_1_method_1_code 41 = .ok (.dup, 1)) rfl ?_
  refine w_initN (ws0 := ((([(h0, .inr (0, [.ref (a9 1), .ref (a31 0), .int 0, .ref (a9 0), .null, .null, .null, .null, .null]))]) ++ (wr (xI X) (xB X) a9 t9 0 ΛTr)) ++ (wr (xI X) (xB X) a31 t31 0 ΛP) : va_W)) (q := q38) (by decide +kernel : decode prog_1_method_1_code 42 = .ok (.invokespecial 29, 3)) ⟨rfl, ln_29⟩ li_Tp i_init_Tp rfl (Nat.le_of_ble_eq_true rfl) (by decide) (by decide) (by decide) (fun a42 t42 e42 p42 => ?_)
  rw [← e42]
  refine w_ws (show _ = (((([(h0, .inr (0, [.ref (a9 1), .ref (a31 0), .int 0, .ref (a9 0), .null, .null, .null, .null, .null]))]) ++ (wr (xI X) (xB X) a9 t9 0 ΛTr)) ++ (wr (xI X) (xB X) a31 t31 0 ΛP)) ++ (wr (xI X) (xB X) a42 t42 0 ΛT) : va_W) from rfl) ?_
  refine w_put (q0 := 0) (ty := .object "LateSeekers$TapeReader") (by decide +kernel : decode prog_1_method_1_code 45 = .ok (.putfield 30, 3)) rfl fl_LS_30 (fun C T N h => by cases h; exact Or.inr ⟨rfl, rfl⟩) (by decide +kernel) rfl rfl rfl (Nat.le_of_ble_eq_true rfl) ?_
  refine w_ws (show _ = (((([(h0, .inr (0, [.ref (a9 1), .ref (a31 0), .int 0, .ref (a9 0), .ref (a42 0), .null, .null, .null, .null]))]) ++ (wr (xI X) (xB X) a9 t9 0 ΛTr)) ++ (wr (xI X) (xB X) a31 t31 0 ΛP)) ++ (wr (xI X) (xB X) a42 t42 0 ΛT) : va_W) from rfl) ?_
  refine w_aload_n (by decide +kernel : decode prog_1_method_1_code 48 = .ok (.aload_n 0, 1)) rfl ?_
  refine w_new (ci := 4) (C := R_Rw) (T := F_Rw) (N := 2) (ty := t_Rw) (fs := [.null, .int 0]) (by decide +kernel : decode prog_1_method_1_code 49 = .ok (.new 34, 3)) rfl i_Rw t_Rw_ok lc_LS_34 df_Rw (by decide) (by decide) (fun q49 => ?_)
  refine w_ws (show _ = ((((([(h0, .inr (0, [.ref (a9 1), .ref (a31 0), .int 0, .ref (a9 0), .ref (a42 0), .null, .null, .null, .null]))]) ++ (wr (xI X) (xB X) a9 t9 0 ΛTr)) ++ (wr (xI X) (xB X) a31 t31 0 ΛP)) ++ (wr (xI X) (xB X) a42 t42 0 ΛT)) ++ ([(q49, .inr (4, [.null, .int 0]))]) : va_W) from rfl) ?_
  refine w_dup (by decide +kernel : decode prog_1_method_1_code 52 = .ok (.dup, 1)) rfl ?_
  refine w_initN (ws0 := (((([(h0, .inr (0, [.ref (a9 1), .ref (a31 0), .int 0, .ref (a9 0), .ref (a42 0), .null, .null, .null, .null]))]) ++ (wr (xI X) (xB X) a9 t9 0 ΛTr)) ++ (wr (xI X) (xB X) a31 t31 0 ΛP)) ++ (wr (xI X) (xB X) a42 t42 0 ΛT) : va_W)) (q := q49) (by decide +kernel : decode prog_1_method_1_code 53 = .ok (.invokespecial 36, 3)) ⟨rfl, ln_36⟩ li_Rw i_init_Rw rfl (Nat.le_of_ble_eq_true rfl) (by decide) (by decide) (by decide) (fun a53 t53 e53 p53 => ?_)
  rw [← e53]
  refine w_ws (show _ = ((((([(h0, .inr (0, [.ref (a9 1), .ref (a31 0), .int 0, .ref (a9 0), .ref (a42 0), .null, .null, .null, .null]))]) ++ (wr (xI X) (xB X) a9 t9 0 ΛTr)) ++ (wr (xI X) (xB X) a31 t31 0 ΛP)) ++ (wr (xI X) (xB X) a42 t42 0 ΛT)) ++ (wr (xI X) (xB X) a53 t53 0 ΛRw) : va_W) from rfl) ?_
  refine w_put (q0 := 0) (ty := .object "LateSeekers$Rows") (by decide +kernel : decode prog_1_method_1_code 56 = .ok (.putfield 37, 3)) rfl fl_LS_37 (fun C T N h => by cases h; exact Or.inr ⟨rfl, rfl⟩) (by decide +kernel) rfl rfl rfl (Nat.le_of_ble_eq_true rfl) ?_
  refine w_ws (show _ = ((((([(h0, .inr (0, [.ref (a9 1), .ref (a31 0), .int 0, .ref (a9 0), .ref (a42 0), .ref (a53 0), .null, .null, .null]))]) ++ (wr (xI X) (xB X) a9 t9 0 ΛTr)) ++ (wr (xI X) (xB X) a31 t31 0 ΛP)) ++ (wr (xI X) (xB X) a42 t42 0 ΛT)) ++ (wr (xI X) (xB X) a53 t53 0 ΛRw) : va_W) from rfl) ?_
  refine w_aload_n (by decide +kernel : decode prog_1_method_1_code 59 = .ok (.aload_n 0, 1)) rfl ?_
  refine w_new (ci := 5) (C := R_Sh) (T := F_Sh) (N := 3) (ty := t_Sh) (fs := [.null, .null, .null]) (by decide +kernel : decode prog_1_method_1_code 60 = .ok (.new 41, 3)) rfl i_Sh t_Sh_ok lc_LS_41 df_Sh (by decide) (by decide) (fun q60 => ?_)
  refine w_ws (show _ = (((((([(h0, .inr (0, [.ref (a9 1), .ref (a31 0), .int 0, .ref (a9 0), .ref (a42 0), .ref (a53 0), .null, .null, .null]))]) ++ (wr (xI X) (xB X) a9 t9 0 ΛTr)) ++ (wr (xI X) (xB X) a31 t31 0 ΛP)) ++ (wr (xI X) (xB X) a42 t42 0 ΛT)) ++ (wr (xI X) (xB X) a53 t53 0 ΛRw)) ++ ([(q60, .inr (5, [.null, .null, .null]))]) : va_W) from rfl) ?_
  refine w_dup (by decide +kernel : decode prog_1_method_1_code 63 = .ok (.dup, 1)) rfl ?_
  refine w_initN (ws0 := ((((([(h0, .inr (0, [.ref (a9 1), .ref (a31 0), .int 0, .ref (a9 0), .ref (a42 0), .ref (a53 0), .null, .null, .null]))]) ++ (wr (xI X) (xB X) a9 t9 0 ΛTr)) ++ (wr (xI X) (xB X) a31 t31 0 ΛP)) ++ (wr (xI X) (xB X) a42 t42 0 ΛT)) ++ (wr (xI X) (xB X) a53 t53 0 ΛRw) : va_W)) (q := q60) (by decide +kernel : decode prog_1_method_1_code 64 = .ok (.invokespecial 43, 3)) ⟨rfl, ln_43⟩ li_Sh i_init_Sh rfl (Nat.le_of_ble_eq_true rfl) (by decide) (by decide) (by decide) (fun a64 t64 e64 p64 => ?_)
  rw [← e64]
  refine w_ws (show _ = (((((([(h0, .inr (0, [.ref (a9 1), .ref (a31 0), .int 0, .ref (a9 0), .ref (a42 0), .ref (a53 0), .null, .null, .null]))]) ++ (wr (xI X) (xB X) a9 t9 0 ΛTr)) ++ (wr (xI X) (xB X) a31 t31 0 ΛP)) ++ (wr (xI X) (xB X) a42 t42 0 ΛT)) ++ (wr (xI X) (xB X) a53 t53 0 ΛRw)) ++ (wr (xI X) (xB X) a64 t64 0 ΛSh) : va_W) from rfl) ?_
  refine w_put (q0 := 0) (ty := .object "LateSeekers$Sheets") (by decide +kernel : decode prog_1_method_1_code 67 = .ok (.putfield 44, 3)) rfl fl_LS_44 (fun C T N h => by cases h; exact Or.inr ⟨rfl, rfl⟩) (by decide +kernel) rfl rfl rfl (Nat.le_of_ble_eq_true rfl) ?_
  refine w_ws (show _ = (((((([(h0, .inr (0, [.ref (a9 1), .ref (a31 0), .int 0, .ref (a9 0), .ref (a42 0), .ref (a53 0), .ref (a64 0), .null, .null]))]) ++ (wr (xI X) (xB X) a9 t9 0 ΛTr)) ++ (wr (xI X) (xB X) a31 t31 0 ΛP)) ++ (wr (xI X) (xB X) a42 t42 0 ΛT)) ++ (wr (xI X) (xB X) a53 t53 0 ΛRw)) ++ (wr (xI X) (xB X) a64 t64 0 ΛSh) : va_W) from rfl) ?_
  refine w_aload_n (by decide +kernel : decode prog_1_method_1_code 70 = .ok (.aload_n 0, 1)) rfl ?_
  refine w_new (ci := 6) (C := R_Sv) (T := F_Sv) (N := 3) (ty := t_Sv) (fs := [.null, .null, .null]) (by decide +kernel : decode prog_1_method_1_code 71 = .ok (.new 48, 3)) rfl i_Sv t_Sv_ok lc_LS_48 df_Sv (by decide) (by decide) (fun q71 => ?_)
  refine w_ws (show _ = ((((((([(h0, .inr (0, [.ref (a9 1), .ref (a31 0), .int 0, .ref (a9 0), .ref (a42 0), .ref (a53 0), .ref (a64 0), .null, .null]))]) ++ (wr (xI X) (xB X) a9 t9 0 ΛTr)) ++ (wr (xI X) (xB X) a31 t31 0 ΛP)) ++ (wr (xI X) (xB X) a42 t42 0 ΛT)) ++ (wr (xI X) (xB X) a53 t53 0 ΛRw)) ++ (wr (xI X) (xB X) a64 t64 0 ΛSh)) ++ ([(q71, .inr (6, [.null, .null, .null]))]) : va_W) from rfl) ?_
  refine w_dup (by decide +kernel : decode prog_1_method_1_code 74 = .ok (.dup, 1)) rfl ?_
  refine w_initN (ws0 := (((((([(h0, .inr (0, [.ref (a9 1), .ref (a31 0), .int 0, .ref (a9 0), .ref (a42 0), .ref (a53 0), .ref (a64 0), .null, .null]))]) ++ (wr (xI X) (xB X) a9 t9 0 ΛTr)) ++ (wr (xI X) (xB X) a31 t31 0 ΛP)) ++ (wr (xI X) (xB X) a42 t42 0 ΛT)) ++ (wr (xI X) (xB X) a53 t53 0 ΛRw)) ++ (wr (xI X) (xB X) a64 t64 0 ΛSh) : va_W)) (q := q71) (by decide +kernel : decode prog_1_method_1_code 75 = .ok (.invokespecial 50, 3)) ⟨rfl, ln_50⟩ li_Sv i_init_Sv rfl (Nat.le_of_ble_eq_true rfl) (by decide) (by decide) (by decide) (fun a75 t75 e75 p75 => ?_)
  rw [← e75]
  refine w_ws (show _ = ((((((([(h0, .inr (0, [.ref (a9 1), .ref (a31 0), .int 0, .ref (a9 0), .ref (a42 0), .ref (a53 0), .ref (a64 0), .null, .null]))]) ++ (wr (xI X) (xB X) a9 t9 0 ΛTr)) ++ (wr (xI X) (xB X) a31 t31 0 ΛP)) ++ (wr (xI X) (xB X) a42 t42 0 ΛT)) ++ (wr (xI X) (xB X) a53 t53 0 ΛRw)) ++ (wr (xI X) (xB X) a64 t64 0 ΛSh)) ++ (wr (xI X) (xB X) a75 t75 0 ΛSv) : va_W) from rfl) ?_
  refine w_put (q0 := 0) (ty := .object "LateSeekers$Shelves") (by decide +kernel : decode prog_1_method_1_code 78 = .ok (.putfield 51, 3)) rfl fl_LS_51 (fun C T N h => by cases h; exact Or.inr ⟨rfl, rfl⟩) (by decide +kernel) rfl rfl rfl (Nat.le_of_ble_eq_true rfl) ?_
  refine w_ws (show _ = ((((((([(h0, .inr (0, [.ref (a9 1), .ref (a31 0), .int 0, .ref (a9 0), .ref (a42 0), .ref (a53 0), .ref (a64 0), .ref (a75 0), .null]))]) ++ (wr (xI X) (xB X) a9 t9 0 ΛTr)) ++ (wr (xI X) (xB X) a31 t31 0 ΛP)) ++ (wr (xI X) (xB X) a42 t42 0 ΛT)) ++ (wr (xI X) (xB X) a53 t53 0 ΛRw)) ++ (wr (xI X) (xB X) a64 t64 0 ΛSh)) ++ (wr (xI X) (xB X) a75 t75 0 ΛSv) : va_W) from rfl) ?_
  refine w_aload_n (by decide +kernel : decode prog_1_method_1_code 81 = .ok (.aload_n 0, 1)) rfl ?_
  refine w_new (ci := 7) (C := R_Ac) (T := F_Ac) (N := 6) (ty := t_Ac) (fs := [.null, .int 0, .int 0, .int 0, .int 0, .int 0]) (by decide +kernel : decode prog_1_method_1_code 82 = .ok (.new 55, 3)) rfl i_Ac t_Ac_ok lc_LS_55 df_Ac (by decide) (by decide) (fun q82 => ?_)
  refine w_ws (show _ = (((((((([(h0, .inr (0, [.ref (a9 1), .ref (a31 0), .int 0, .ref (a9 0), .ref (a42 0), .ref (a53 0), .ref (a64 0), .ref (a75 0), .null]))]) ++ (wr (xI X) (xB X) a9 t9 0 ΛTr)) ++ (wr (xI X) (xB X) a31 t31 0 ΛP)) ++ (wr (xI X) (xB X) a42 t42 0 ΛT)) ++ (wr (xI X) (xB X) a53 t53 0 ΛRw)) ++ (wr (xI X) (xB X) a64 t64 0 ΛSh)) ++ (wr (xI X) (xB X) a75 t75 0 ΛSv)) ++ ([(q82, .inr (7, [.null, .int 0, .int 0, .int 0, .int 0, .int 0]))]) : va_W) from rfl) ?_
  refine w_dup (by decide +kernel : decode prog_1_method_1_code 85 = .ok (.dup, 1)) rfl ?_
  refine w_initN (ws0 := ((((((([(h0, .inr (0, [.ref (a9 1), .ref (a31 0), .int 0, .ref (a9 0), .ref (a42 0), .ref (a53 0), .ref (a64 0), .ref (a75 0), .null]))]) ++ (wr (xI X) (xB X) a9 t9 0 ΛTr)) ++ (wr (xI X) (xB X) a31 t31 0 ΛP)) ++ (wr (xI X) (xB X) a42 t42 0 ΛT)) ++ (wr (xI X) (xB X) a53 t53 0 ΛRw)) ++ (wr (xI X) (xB X) a64 t64 0 ΛSh)) ++ (wr (xI X) (xB X) a75 t75 0 ΛSv) : va_W)) (q := q82) (by decide +kernel : decode prog_1_method_1_code 86 = .ok (.invokespecial 57, 3)) ⟨rfl, ln_57⟩ li_Ac i_init_Ac rfl (Nat.le_of_ble_eq_true rfl) (by decide) (by decide) (by decide) (fun a86 t86 e86 p86 => ?_)
  rw [← e86]
  refine w_ws (show _ = (((((((([(h0, .inr (0, [.ref (a9 1), .ref (a31 0), .int 0, .ref (a9 0), .ref (a42 0), .ref (a53 0), .ref (a64 0), .ref (a75 0), .null]))]) ++ (wr (xI X) (xB X) a9 t9 0 ΛTr)) ++ (wr (xI X) (xB X) a31 t31 0 ΛP)) ++ (wr (xI X) (xB X) a42 t42 0 ΛT)) ++ (wr (xI X) (xB X) a53 t53 0 ΛRw)) ++ (wr (xI X) (xB X) a64 t64 0 ΛSh)) ++ (wr (xI X) (xB X) a75 t75 0 ΛSv)) ++ (wr (xI X) (xB X) a86 t86 0 ΛA) : va_W) from rfl) ?_
  refine w_put (q0 := 0) (ty := .object "LateSeekers$Actor") (by decide +kernel : decode prog_1_method_1_code 89 = .ok (.putfield 58, 3)) rfl fl_LS_58 (fun C T N h => by cases h; exact Or.inr ⟨rfl, rfl⟩) (by decide +kernel) rfl rfl rfl (Nat.le_of_ble_eq_true rfl) ?_
  refine w_ws (show _ = (((((((([(h0, .inr (0, [.ref (a9 1), .ref (a31 0), .int 0, .ref (a9 0), .ref (a42 0), .ref (a53 0), .ref (a64 0), .ref (a75 0), .ref (a86 0)]))]) ++ (wr (xI X) (xB X) a9 t9 0 ΛTr)) ++ (wr (xI X) (xB X) a31 t31 0 ΛP)) ++ (wr (xI X) (xB X) a42 t42 0 ΛT)) ++ (wr (xI X) (xB X) a53 t53 0 ΛRw)) ++ (wr (xI X) (xB X) a64 t64 0 ΛSh)) ++ (wr (xI X) (xB X) a75 t75 0 ΛSv)) ++ (wr (xI X) (xB X) a86 t86 0 ΛA) : va_W) from rfl) ?_
  refine w_perm (ws' := wr (xI X) (xB X) (mkA (xA X) [h0, a9 1, a9 2, a9 3, a9 4, a9 5, a9 6, a9 7, a9 8, a9 9, a9 10, a9 11, a9 12, a9 13, a9 14, a9 15, a9 16, a9 17, a9 18, a31 0, a31 1, a31 2, a31 3, a31 4, a31 5, a31 6, a31 7, a31 8, a9 0, a42 0, a42 1, a53 0, a53 1, a64 0, a64 1, a64 2, a64 3, a75 0, a75 1, a75 2, a75 3, a86 0, a86 1]) (mkS [fun _ => 0, t9 1, t9 2, t9 3, t9 4, t9 5, t9 6, t9 7, t9 8, t9 9, t9 10, t9 11, t9 12, t9 13, t9 14, t9 15, t9 16, t9 17, t9 18, t31 0, t31 1, t31 2, t31 3, t31 4, t31 5, t31 6, t31 7, t31 8, t9 0, t42 0, t42 1, t53 0, t53 1, t64 0, t64 1, t64 2, t64 3, t75 0, t75 1, t75 2, t75 3, t86 0, t86 1]) 0 ΛC) [0, 2, 3, 4, 5, 6, 7, 8, 9, 10, 11, 12, 13, 14, 15, 16, 17, 18, 19, 20, 21, 22, 23, 24, 25, 26, 27, 28, 1, 29, 30, 31, 32, 33, 34, 35, 36, 37, 38, 39, 40, 41, 42] (by decide) rfl ?_
  exact w_ret hR (by decide +kernel : decode prog_1_method_1_code 92 = .ok (.return_, 1)) (by decide) (by decide) (mkA (xA X) [h0, a9 1, a9 2, a9 3, a9 4, a9 5, a9 6, a9 7, a9 8, a9 9, a9 10, a9 11, a9 12, a9 13, a9 14, a9 15, a9 16, a9 17, a9 18, a31 0, a31 1, a31 2, a31 3, a31 4, a31 5, a31 6, a31 7, a31 8, a9 0, a42 0, a42 1, a53 0, a53 1, a64 0, a64 1, a64 2, a64 3, a75 0, a75 1, a75 2, a75 3, a86 0, a86 1]) (mkS [fun _ => 0, t9 1, t9 2, t9 3, t9 4, t9 5, t9 6, t9 7, t9 8, t9 9, t9 10, t9 11, t9 12, t9 13, t9 14, t9 15, t9 16, t9 17, t9 18, t31 0, t31 1, t31 2, t31 3, t31 4, t31 5, t31 6, t31 7, t31 8, t9 0, t42 0, t42 1, t53 0, t53 1, t64 0, t64 1, t64 2, t64 3, t75 0, t75 1, t75 2, t75 3, t86 0, t86 1]) rfl ⟨p9.1.cg (k8 rfl rfl rfl rfl rfl rfl rfl rfl), rfl, p42, p53, p64, p75, p86⟩ rfl
def MI (τ : Store) : Prop := (τ 0 4 = nI 0 ∧ τ 0 6 = nI 0 ∧ τ 0 14 = nI 0 ∧ τ 0 22 = nI 0) ∧ τ 1 = g0 ∧ (∀ j, τ 7 j = nI 0) ∧ (∀ i, i < 4 → τ 8 i = -1 ∧ τ 9 i = nI 0 ∧ τ 11 i = nI 0)
set_option maxHeartbeats 4000000 in
set_option maxRecDepth 20000 in
theorem i_init_Md : Ci ΛM 8 [.null, .null, .null, .null, .int 0, .null, .int 0, .int 0, .int 0, .int 0, .int 0, .int 0, .null, .null, .int 0, .null, .null, .null, .null, .null, .null, .null, .int 0, .int 0, .int 0, .int 0, .int 0] mt_Md_init 1 14 720 (MI) := by
  refine Ci.of (by decide) rfl (by decide) rfl (fun X h0 hR => ?_)
  show GW (mt_Md_init, 1, 14, 720) X [(h0, .inr (8, [.null, .null, .null, .null, .int 0, .null, .int 0, .int 0, .int 0, .int 0, .int 0, .int 0, .null, .null, .int 0, .null, .null, .null, .null, .null, .null, .null, .int 0, .int 0, .int 0, .int 0, .int 0]))] 0 0 [some (.ref h0)] [] 0
  refine w_aload_n (by decide +kernel : decode prog_10_method_1_code 0 = .ok (.aload_n 0, 1)) rfl ?_
  refine w_obj (by decide +kernel : decode prog_10_method_1_code 1 = .ok (.invokespecial 1, 3)) lo_Md_1 (by decide) (by decide) ?_
  refine w_aload_n (by decide +kernel : decode prog_10_method_1_code 4 = .ok (.aload_n 0, 1)) rfl ?_
  refine w_bipush (v := nI 67) (by decide +kernel : decode prog_10_method_1_code 5 = .ok (.bipush 67, 2)) (by decide) ?_
  refine w_newI (N := 67) (by decide +kernel : decode prog_10_method_1_code 7 = .ok (.newarray .int, 2)) rfl (by decide) (by decide) (by decide) (fun q7 => ?_)
  refine w_ws (show _ = ([(h0, .inr (8, [.null, .null, .null, .null, .int 0, .null, .int 0, .int 0, .int 0, .int 0, .int 0, .int 0, .null, .null, .int 0, .null, .null, .null, .null, .null, .null, .null, .int 0, .int 0, .int 0, .int 0, .int 0])), (q7, .inl (xI X, 67, .inl (fun _ => 0)))] : va_W) from rfl) ?_
  refine w_put (q0 := 0) (ty := .array .int) (by decide +kernel : decode prog_10_method_1_code 9 = .ok (.putfield 7, 3)) rfl fl_Md_7 (fun C T N h => by cases h; exact Or.inr ⟨rfl, rfl⟩) (by decide +kernel) rfl rfl rfl (Nat.le_of_ble_eq_true rfl) ?_
  refine w_ws (show _ = ([(h0, .inr (8, [.ref q7, .null, .null, .null, .int 0, .null, .int 0, .int 0, .int 0, .int 0, .int 0, .int 0, .null, .null, .int 0, .null, .null, .null, .null, .null, .null, .null, .int 0, .int 0, .int 0, .int 0, .int 0])), (q7, .inl (xI X, 67, .inl (fun _ => 0)))] : va_W) from rfl) ?_
  refine w_aload_n (by decide +kernel : decode prog_10_method_1_code 12 = .ok (.aload_n 0, 1)) rfl ?_
  refine w_bipush (v := nI 67) (by decide +kernel : decode prog_10_method_1_code 13 = .ok (.bipush 67, 2)) (by decide) ?_
  refine w_newI (N := 67) (by decide +kernel : decode prog_10_method_1_code 15 = .ok (.newarray .int, 2)) rfl (by decide) (by decide) (by decide) (fun q15 => ?_)
  refine w_ws (show _ = ([(h0, .inr (8, [.ref q7, .null, .null, .null, .int 0, .null, .int 0, .int 0, .int 0, .int 0, .int 0, .int 0, .null, .null, .int 0, .null, .null, .null, .null, .null, .null, .null, .int 0, .int 0, .int 0, .int 0, .int 0])), (q7, .inl (xI X, 67, .inl (fun _ => 0))), (q15, .inl (xI X, 67, .inl (fun _ => 0)))] : va_W) from rfl) ?_
  refine w_put (q0 := 0) (ty := .array .int) (by decide +kernel : decode prog_10_method_1_code 17 = .ok (.putfield 13, 3)) rfl fl_Md_13 (fun C T N h => by cases h; exact Or.inr ⟨rfl, rfl⟩) (by decide +kernel) rfl rfl rfl (Nat.le_of_ble_eq_true rfl) ?_
  refine w_ws (show _ = ([(h0, .inr (8, [.ref q7, .ref q15, .null, .null, .int 0, .null, .int 0, .int 0, .int 0, .int 0, .int 0, .int 0, .null, .null, .int 0, .null, .null, .null, .null, .null, .null, .null, .int 0, .int 0, .int 0, .int 0, .int 0])), (q7, .inl (xI X, 67, .inl (fun _ => 0))), (q15, .inl (xI X, 67, .inl (fun _ => 0)))] : va_W) from rfl) ?_
  refine w_aload_n (by decide +kernel : decode prog_10_method_1_code 20 = .ok (.aload_n 0, 1)) rfl ?_
  refine w_bipush (v := nI 67) (by decide +kernel : decode prog_10_method_1_code 21 = .ok (.bipush 67, 2)) (by decide) ?_
  refine w_newI (N := 67) (by decide +kernel : decode prog_10_method_1_code 23 = .ok (.newarray .int, 2)) rfl (by decide) (by decide) (by decide) (fun q23 => ?_)
  refine w_ws (show _ = ([(h0, .inr (8, [.ref q7, .ref q15, .null, .null, .int 0, .null, .int 0, .int 0, .int 0, .int 0, .int 0, .int 0, .null, .null, .int 0, .null, .null, .null, .null, .null, .null, .null, .int 0, .int 0, .int 0, .int 0, .int 0])), (q7, .inl (xI X, 67, .inl (fun _ => 0))), (q15, .inl (xI X, 67, .inl (fun _ => 0))), (q23, .inl (xI X, 67, .inl (fun _ => 0)))] : va_W) from rfl) ?_
  refine w_put (q0 := 0) (ty := .array .int) (by decide +kernel : decode prog_10_method_1_code 25 = .ok (.putfield 16, 3)) rfl fl_Md_16 (fun C T N h => by cases h; exact Or.inr ⟨rfl, rfl⟩) (by decide +kernel) rfl rfl rfl (Nat.le_of_ble_eq_true rfl) ?_
  refine w_ws (show _ = ([(h0, .inr (8, [.ref q7, .ref q15, .ref q23, .null, .int 0, .null, .int 0, .int 0, .int 0, .int 0, .int 0, .int 0, .null, .null, .int 0, .null, .null, .null, .null, .null, .null, .null, .int 0, .int 0, .int 0, .int 0, .int 0])), (q7, .inl (xI X, 67, .inl (fun _ => 0))), (q15, .inl (xI X, 67, .inl (fun _ => 0))), (q23, .inl (xI X, 67, .inl (fun _ => 0)))] : va_W) from rfl) ?_
  refine w_aload_n (by decide +kernel : decode prog_10_method_1_code 28 = .ok (.aload_n 0, 1)) rfl ?_
  refine w_bipush (v := nI 67) (by decide +kernel : decode prog_10_method_1_code 29 = .ok (.bipush 67, 2)) (by decide) ?_
  refine w_newI (N := 67) (by decide +kernel : decode prog_10_method_1_code 31 = .ok (.newarray .int, 2)) rfl (by decide) (by decide) (by decide) (fun q31 => ?_)
  refine w_ws (show _ = ([(h0, .inr (8, [.ref q7, .ref q15, .ref q23, .null, .int 0, .null, .int 0, .int 0, .int 0, .int 0, .int 0, .int 0, .null, .null, .int 0, .null, .null, .null, .null, .null, .null, .null, .int 0, .int 0, .int 0, .int 0, .int 0])), (q7, .inl (xI X, 67, .inl (fun _ => 0))), (q15, .inl (xI X, 67, .inl (fun _ => 0))), (q23, .inl (xI X, 67, .inl (fun _ => 0))), (q31, .inl (xI X, 67, .inl (fun _ => 0)))] : va_W) from rfl) ?_
  refine w_put (q0 := 0) (ty := .array .int) (by decide +kernel : decode prog_10_method_1_code 33 = .ok (.putfield 19, 3)) rfl fl_Md_19 (fun C T N h => by cases h; exact Or.inr ⟨rfl, rfl⟩) (by decide +kernel) rfl rfl rfl (Nat.le_of_ble_eq_true rfl) ?_
  refine w_ws (show _ = ([(h0, .inr (8, [.ref q7, .ref q15, .ref q23, .ref q31, .int 0, .null, .int 0, .int 0, .int 0, .int 0, .int 0, .int 0, .null, .null, .int 0, .null, .null, .null, .null, .null, .null, .null, .int 0, .int 0, .int 0, .int 0, .int 0])), (q7, .inl (xI X, 67, .inl (fun _ => 0))), (q15, .inl (xI X, 67, .inl (fun _ => 0))), (q23, .inl (xI X, 67, .inl (fun _ => 0))), (q31, .inl (xI X, 67, .inl (fun _ => 0)))] : va_W) from rfl) ?_
  refine w_aload_n (by decide +kernel : decode prog_10_method_1_code 36 = .ok (.aload_n 0, 1)) rfl ?_
  refine w_sipush (v := nI 200) (by decide +kernel : decode prog_10_method_1_code 37 = .ok (.sipush 200, 3)) (by decide) ?_
  refine w_newI (N := 200) (by decide +kernel : decode prog_10_method_1_code 40 = .ok (.newarray .int, 2)) rfl (by decide) (by decide) (by decide) (fun q40 => ?_)
  refine w_ws (show _ = ([(h0, .inr (8, [.ref q7, .ref q15, .ref q23, .ref q31, .int 0, .null, .int 0, .int 0, .int 0, .int 0, .int 0, .int 0, .null, .null, .int 0, .null, .null, .null, .null, .null, .null, .null, .int 0, .int 0, .int 0, .int 0, .int 0])), (q7, .inl (xI X, 67, .inl (fun _ => 0))), (q15, .inl (xI X, 67, .inl (fun _ => 0))), (q23, .inl (xI X, 67, .inl (fun _ => 0))), (q31, .inl (xI X, 67, .inl (fun _ => 0))), (q40, .inl (xI X, 200, .inl (fun _ => 0)))] : va_W) from rfl) ?_
  refine w_put (q0 := 0) (ty := .array .int) (by decide +kernel : decode prog_10_method_1_code 42 = .ok (.putfield 22, 3)) rfl fl_Md_22 (fun C T N h => by cases h; exact Or.inr ⟨rfl, rfl⟩) (by decide +kernel) rfl rfl rfl (Nat.le_of_ble_eq_true rfl) ?_
  refine w_ws (show _ = ([(h0, .inr (8, [.ref q7, .ref q15, .ref q23, .ref q31, .int 0, .ref q40, .int 0, .int 0, .int 0, .int 0, .int 0, .int 0, .null, .null, .int 0, .null, .null, .null, .null, .null, .null, .null, .int 0, .int 0, .int 0, .int 0, .int 0])), (q7, .inl (xI X, 67, .inl (fun _ => 0))), (q15, .inl (xI X, 67, .inl (fun _ => 0))), (q23, .inl (xI X, 67, .inl (fun _ => 0))), (q31, .inl (xI X, 67, .inl (fun _ => 0))), (q40, .inl (xI X, 200, .inl (fun _ => 0)))] : va_W) from rfl) ?_
  refine w_aload_n (by decide +kernel : decode prog_10_method_1_code 45 = .ok (.aload_n 0, 1)) rfl ?_
  refine w_bipush (v := nI 8) (by decide +kernel : decode prog_10_method_1_code 46 = .ok (.bipush 8, 2)) (by decide) ?_
  refine w_newI (N := 8) (by decide +kernel : decode prog_10_method_1_code 48 = .ok (.newarray .int, 2)) rfl (by decide) (by decide) (by decide) (fun q48 => ?_)
  refine w_ws (show _ = ([(h0, .inr (8, [.ref q7, .ref q15, .ref q23, .ref q31, .int 0, .ref q40, .int 0, .int 0, .int 0, .int 0, .int 0, .int 0, .null, .null, .int 0, .null, .null, .null, .null, .null, .null, .null, .int 0, .int 0, .int 0, .int 0, .int 0])), (q7, .inl (xI X, 67, .inl (fun _ => 0))), (q15, .inl (xI X, 67, .inl (fun _ => 0))), (q23, .inl (xI X, 67, .inl (fun _ => 0))), (q31, .inl (xI X, 67, .inl (fun _ => 0))), (q40, .inl (xI X, 200, .inl (fun _ => 0))), (q48, .inl (xI X, 8, .inl (fun _ => 0)))] : va_W) from rfl) ?_
  refine w_put (q0 := 0) (ty := .array .int) (by decide +kernel : decode prog_10_method_1_code 50 = .ok (.putfield 25, 3)) rfl fl_Md_25 (fun C T N h => by cases h; exact Or.inr ⟨rfl, rfl⟩) (by decide +kernel) rfl rfl rfl (Nat.le_of_ble_eq_true rfl) ?_
  refine w_ws (show _ = ([(h0, .inr (8, [.ref q7, .ref q15, .ref q23, .ref q31, .int 0, .ref q40, .int 0, .int 0, .int 0, .int 0, .int 0, .int 0, .ref q48, .null, .int 0, .null, .null, .null, .null, .null, .null, .null, .int 0, .int 0, .int 0, .int 0, .int 0])), (q7, .inl (xI X, 67, .inl (fun _ => 0))), (q15, .inl (xI X, 67, .inl (fun _ => 0))), (q23, .inl (xI X, 67, .inl (fun _ => 0))), (q31, .inl (xI X, 67, .inl (fun _ => 0))), (q40, .inl (xI X, 200, .inl (fun _ => 0))), (q48, .inl (xI X, 8, .inl (fun _ => 0)))] : va_W) from rfl) ?_
  refine w_aload_n (by decide +kernel : decode prog_10_method_1_code 53 = .ok (.aload_n 0, 1)) rfl ?_
  refine w_bipush (v := nI 30) (by decide +kernel : decode prog_10_method_1_code 54 = .ok (.bipush 30, 2)) (by decide) ?_
  refine w_newI (N := 30) (by decide +kernel : decode prog_10_method_1_code 56 = .ok (.newarray .int, 2)) rfl (by decide) (by decide) (by decide) (fun q56 => ?_)
  refine w_ws (show _ = ([(h0, .inr (8, [.ref q7, .ref q15, .ref q23, .ref q31, .int 0, .ref q40, .int 0, .int 0, .int 0, .int 0, .int 0, .int 0, .ref q48, .null, .int 0, .null, .null, .null, .null, .null, .null, .null, .int 0, .int 0, .int 0, .int 0, .int 0])), (q7, .inl (xI X, 67, .inl (fun _ => 0))), (q15, .inl (xI X, 67, .inl (fun _ => 0))), (q23, .inl (xI X, 67, .inl (fun _ => 0))), (q31, .inl (xI X, 67, .inl (fun _ => 0))), (q40, .inl (xI X, 200, .inl (fun _ => 0))), (q48, .inl (xI X, 8, .inl (fun _ => 0))), (q56, .inl (xI X, 30, .inl (fun _ => 0)))] : va_W) from rfl) ?_
  refine w_put (q0 := 0) (ty := .array .int) (by decide +kernel : decode prog_10_method_1_code 58 = .ok (.putfield 28, 3)) rfl fl_Md_28 (fun C T N h => by cases h; exact Or.inr ⟨rfl, rfl⟩) (by decide +kernel) rfl rfl rfl (Nat.le_of_ble_eq_true rfl) ?_
  refine w_ws (show _ = ([(h0, .inr (8, [.ref q7, .ref q15, .ref q23, .ref q31, .int 0, .ref q40, .int 0, .int 0, .int 0, .int 0, .int 0, .int 0, .ref q48, .ref q56, .int 0, .null, .null, .null, .null, .null, .null, .null, .int 0, .int 0, .int 0, .int 0, .int 0])), (q7, .inl (xI X, 67, .inl (fun _ => 0))), (q15, .inl (xI X, 67, .inl (fun _ => 0))), (q23, .inl (xI X, 67, .inl (fun _ => 0))), (q31, .inl (xI X, 67, .inl (fun _ => 0))), (q40, .inl (xI X, 200, .inl (fun _ => 0))), (q48, .inl (xI X, 8, .inl (fun _ => 0))), (q56, .inl (xI X, 30, .inl (fun _ => 0)))] : va_W) from rfl) ?_
  refine w_aload_n (by decide +kernel : decode prog_10_method_1_code 61 = .ok (.aload_n 0, 1)) rfl ?_
  refine w_iconst (v := nI 4) (by decide +kernel : decode prog_10_method_1_code 62 = .ok (.iconst 4, 1)) (by decide) ?_
  refine w_newI (N := 4) (by decide +kernel : decode prog_10_method_1_code 63 = .ok (.newarray .int, 2)) rfl (by decide) (by decide) (by decide) (fun q63 => ?_)
  refine w_ws (show _ = ([(h0, .inr (8, [.ref q7, .ref q15, .ref q23, .ref q31, .int 0, .ref q40, .int 0, .int 0, .int 0, .int 0, .int 0, .int 0, .ref q48, .ref q56, .int 0, .null, .null, .null, .null, .null, .null, .null, .int 0, .int 0, .int 0, .int 0, .int 0])), (q7, .inl (xI X, 67, .inl (fun _ => 0))), (q15, .inl (xI X, 67, .inl (fun _ => 0))), (q23, .inl (xI X, 67, .inl (fun _ => 0))), (q31, .inl (xI X, 67, .inl (fun _ => 0))), (q40, .inl (xI X, 200, .inl (fun _ => 0))), (q48, .inl (xI X, 8, .inl (fun _ => 0))), (q56, .inl (xI X, 30, .inl (fun _ => 0))), (q63, .inl (xI X, 4, .inl (fun _ => 0)))] : va_W) from rfl) ?_
  refine w_dup (by decide +kernel : decode prog_10_method_1_code 65 = .ok (.dup, 1)) rfl ?_
  refine w_iconst (v := nI 0) (by decide +kernel : decode prog_10_method_1_code 66 = .ok (.iconst 0, 1)) (by decide) ?_
  refine w_iconst (v := (-1)) (by decide +kernel : decode prog_10_method_1_code 67 = .ok (.iconst (-1), 1)) (by decide) ?_
  refine w_iast (j := 0) (q0 := 8) (by decide +kernel : decode prog_10_method_1_code 68 = .ok (.iastore, 1)) rfl rfl (by decide) (by decide) ?_
  refine w_ws (show _ = ([(h0, .inr (8, [.ref q7, .ref q15, .ref q23, .ref q31, .int 0, .ref q40, .int 0, .int 0, .int 0, .int 0, .int 0, .int 0, .ref q48, .ref q56, .int 0, .null, .null, .null, .null, .null, .null, .null, .int 0, .int 0, .int 0, .int 0, .int 0])), (q7, .inl (xI X, 67, .inl (fun _ => 0))), (q15, .inl (xI X, 67, .inl (fun _ => 0))), (q23, .inl (xI X, 67, .inl (fun _ => 0))), (q31, .inl (xI X, 67, .inl (fun _ => 0))), (q40, .inl (xI X, 200, .inl (fun _ => 0))), (q48, .inl (xI X, 8, .inl (fun _ => 0))), (q56, .inl (xI X, 30, .inl (fun _ => 0))), (q63, .inl (xI X, 4, .inl (upd (fun _ => 0) 0 (-1))))] : va_W) from rfl) ?_
  refine w_dup (by decide +kernel : decode prog_10_method_1_code 69 = .ok (.dup, 1)) rfl ?_
  refine w_iconst (v := nI 1) (by decide +kernel : decode prog_10_method_1_code 70 = .ok (.iconst 1, 1)) (by decide) ?_
  refine w_iconst (v := (-1)) (by decide +kernel : decode prog_10_method_1_code 71 = .ok (.iconst (-1), 1)) (by decide) ?_
  refine w_iast (j := 1) (q0 := 8) (by decide +kernel : decode prog_10_method_1_code 72 = .ok (.iastore, 1)) rfl rfl (by decide) (by decide) ?_
  refine w_ws (show _ = ([(h0, .inr (8, [.ref q7, .ref q15, .ref q23, .ref q31, .int 0, .ref q40, .int 0, .int 0, .int 0, .int 0, .int 0, .int 0, .ref q48, .ref q56, .int 0, .null, .null, .null, .null, .null, .null, .null, .int 0, .int 0, .int 0, .int 0, .int 0])), (q7, .inl (xI X, 67, .inl (fun _ => 0))), (q15, .inl (xI X, 67, .inl (fun _ => 0))), (q23, .inl (xI X, 67, .inl (fun _ => 0))), (q31, .inl (xI X, 67, .inl (fun _ => 0))), (q40, .inl (xI X, 200, .inl (fun _ => 0))), (q48, .inl (xI X, 8, .inl (fun _ => 0))), (q56, .inl (xI X, 30, .inl (fun _ => 0))), (q63, .inl (xI X, 4, .inl (upd (upd (fun _ => 0) 0 (-1)) 1 (-1))))] : va_W) from rfl) ?_
  refine w_dup (by decide +kernel : decode prog_10_method_1_code 73 = .ok (.dup, 1)) rfl ?_
  refine w_iconst (v := nI 2) (by decide +kernel : decode prog_10_method_1_code 74 = .ok (.iconst 2, 1)) (by decide) ?_
  refine w_iconst (v := (-1)) (by decide +kernel : decode prog_10_method_1_code 75 = .ok (.iconst (-1), 1)) (by decide) ?_
  refine w_iast (j := 2) (q0 := 8) (by decide +kernel : decode prog_10_method_1_code 76 = .ok (.iastore, 1)) rfl rfl (by decide) (by decide) ?_
  refine w_ws (show _ = ([(h0, .inr (8, [.ref q7, .ref q15, .ref q23, .ref q31, .int 0, .ref q40, .int 0, .int 0, .int 0, .int 0, .int 0, .int 0, .ref q48, .ref q56, .int 0, .null, .null, .null, .null, .null, .null, .null, .int 0, .int 0, .int 0, .int 0, .int 0])), (q7, .inl (xI X, 67, .inl (fun _ => 0))), (q15, .inl (xI X, 67, .inl (fun _ => 0))), (q23, .inl (xI X, 67, .inl (fun _ => 0))), (q31, .inl (xI X, 67, .inl (fun _ => 0))), (q40, .inl (xI X, 200, .inl (fun _ => 0))), (q48, .inl (xI X, 8, .inl (fun _ => 0))), (q56, .inl (xI X, 30, .inl (fun _ => 0))), (q63, .inl (xI X, 4, .inl (upd (upd (upd (fun _ => 0) 0 (-1)) 1 (-1)) 2 (-1))))] : va_W) from rfl) ?_
  refine w_dup (by decide +kernel : decode prog_10_method_1_code 77 = .ok (.dup, 1)) rfl ?_
  refine w_iconst (v := nI 3) (by decide +kernel : decode prog_10_method_1_code 78 = .ok (.iconst 3, 1)) (by decide) ?_
  refine w_iconst (v := (-1)) (by decide +kernel : decode prog_10_method_1_code 79 = .ok (.iconst (-1), 1)) (by decide) ?_
  refine w_iast (j := 3) (q0 := 8) (by decide +kernel : decode prog_10_method_1_code 80 = .ok (.iastore, 1)) rfl rfl (by decide) (by decide) ?_
  refine w_ws (show _ = ([(h0, .inr (8, [.ref q7, .ref q15, .ref q23, .ref q31, .int 0, .ref q40, .int 0, .int 0, .int 0, .int 0, .int 0, .int 0, .ref q48, .ref q56, .int 0, .null, .null, .null, .null, .null, .null, .null, .int 0, .int 0, .int 0, .int 0, .int 0])), (q7, .inl (xI X, 67, .inl (fun _ => 0))), (q15, .inl (xI X, 67, .inl (fun _ => 0))), (q23, .inl (xI X, 67, .inl (fun _ => 0))), (q31, .inl (xI X, 67, .inl (fun _ => 0))), (q40, .inl (xI X, 200, .inl (fun _ => 0))), (q48, .inl (xI X, 8, .inl (fun _ => 0))), (q56, .inl (xI X, 30, .inl (fun _ => 0))), (q63, .inl (xI X, 4, .inl (upd (upd (upd (upd (fun _ => 0) 0 (-1)) 1 (-1)) 2 (-1)) 3 (-1))))] : va_W) from rfl) ?_
  refine w_put (q0 := 0) (ty := .array .int) (by decide +kernel : decode prog_10_method_1_code 81 = .ok (.putfield 31, 3)) rfl fl_Md_31 (fun C T N h => by cases h; exact Or.inr ⟨rfl, rfl⟩) (by decide +kernel) rfl rfl rfl (Nat.le_of_ble_eq_true rfl) ?_
  refine w_ws (show _ = ([(h0, .inr (8, [.ref q7, .ref q15, .ref q23, .ref q31, .int 0, .ref q40, .int 0, .int 0, .int 0, .int 0, .int 0, .int 0, .ref q48, .ref q56, .int 0, .ref q63, .null, .null, .null, .null, .null, .null, .int 0, .int 0, .int 0, .int 0, .int 0])), (q7, .inl (xI X, 67, .inl (fun _ => 0))), (q15, .inl (xI X, 67, .inl (fun _ => 0))), (q23, .inl (xI X, 67, .inl (fun _ => 0))), (q31, .inl (xI X, 67, .inl (fun _ => 0))), (q40, .inl (xI X, 200, .inl (fun _ => 0))), (q48, .inl (xI X, 8, .inl (fun _ => 0))), (q56, .inl (xI X, 30, .inl (fun _ => 0))), (q63, .inl (xI X, 4, .inl (upd (upd (upd (upd (fun _ => 0) 0 (-1)) 1 (-1)) 2 (-1)) 3 (-1))))] : va_W) from rfl) ?_
  refine w_aload_n (by decide +kernel : decode prog_10_method_1_code 84 = .ok (.aload_n 0, 1)) rfl ?_
  refine w_iconst (v := nI 4) (by decide +kernel : decode prog_10_method_1_code 85 = .ok (.iconst 4, 1)) (by decide) ?_
  refine w_newI (N := 4) (by decide +kernel : decode prog_10_method_1_code 86 = .ok (.newarray .int, 2)) rfl (by decide) (by decide) (by decide) (fun q86 => ?_)
  refine w_ws (show _ = ([(h0, .inr (8, [.ref q7, .ref q15, .ref q23, .ref q31, .int 0, .ref q40, .int 0, .int 0, .int 0, .int 0, .int 0, .int 0, .ref q48, .ref q56, .int 0, .ref q63, .null, .null, .null, .null, .null, .null, .int 0, .int 0, .int 0, .int 0, .int 0])), (q7, .inl (xI X, 67, .inl (fun _ => 0))), (q15, .inl (xI X, 67, .inl (fun _ => 0))), (q23, .inl (xI X, 67, .inl (fun _ => 0))), (q31, .inl (xI X, 67, .inl (fun _ => 0))), (q40, .inl (xI X, 200, .inl (fun _ => 0))), (q48, .inl (xI X, 8, .inl (fun _ => 0))), (q56, .inl (xI X, 30, .inl (fun _ => 0))), (q63, .inl (xI X, 4, .inl (upd (upd (upd (upd (fun _ => 0) 0 (-1)) 1 (-1)) 2 (-1)) 3 (-1)))), (q86, .inl (xI X, 4, .inl (fun _ => 0)))] : va_W) from rfl) ?_
  refine w_put (q0 := 0) (ty := .array .int) (by decide +kernel : decode prog_10_method_1_code 88 = .ok (.putfield 34, 3)) rfl fl_Md_34 (fun C T N h => by cases h; exact Or.inr ⟨rfl, rfl⟩) (by decide +kernel) rfl rfl rfl (Nat.le_of_ble_eq_true rfl) ?_
  refine w_ws (show _ = ([(h0, .inr (8, [.ref q7, .ref q15, .ref q23, .ref q31, .int 0, .ref q40, .int 0, .int 0, .int 0, .int 0, .int 0, .int 0, .ref q48, .ref q56, .int 0, .ref q63, .ref q86, .null, .null, .null, .null, .null, .int 0, .int 0, .int 0, .int 0, .int 0])), (q7, .inl (xI X, 67, .inl (fun _ => 0))), (q15, .inl (xI X, 67, .inl (fun _ => 0))), (q23, .inl (xI X, 67, .inl (fun _ => 0))), (q31, .inl (xI X, 67, .inl (fun _ => 0))), (q40, .inl (xI X, 200, .inl (fun _ => 0))), (q48, .inl (xI X, 8, .inl (fun _ => 0))), (q56, .inl (xI X, 30, .inl (fun _ => 0))), (q63, .inl (xI X, 4, .inl (upd (upd (upd (upd (fun _ => 0) 0 (-1)) 1 (-1)) 2 (-1)) 3 (-1)))), (q86, .inl (xI X, 4, .inl (fun _ => 0)))] : va_W) from rfl) ?_
  refine w_aload_n (by decide +kernel : decode prog_10_method_1_code 91 = .ok (.aload_n 0, 1)) rfl ?_
  refine w_sipush (v := nI 160) (by decide +kernel : decode prog_10_method_1_code 92 = .ok (.sipush 160, 3)) (by decide) ?_
  refine w_newI (N := 160) (by decide +kernel : decode prog_10_method_1_code 95 = .ok (.newarray .int, 2)) rfl (by decide) (by decide) (by decide) (fun q95 => ?_)
  refine w_ws (show _ = ([(h0, .inr (8, [.ref q7, .ref q15, .ref q23, .ref q31, .int 0, .ref q40, .int 0, .int 0, .int 0, .int 0, .int 0, .int 0, .ref q48, .ref q56, .int 0, .ref q63, .ref q86, .null, .null, .null, .null, .null, .int 0, .int 0, .int 0, .int 0, .int 0])), (q7, .inl (xI X, 67, .inl (fun _ => 0))), (q15, .inl (xI X, 67, .inl (fun _ => 0))), (q23, .inl (xI X, 67, .inl (fun _ => 0))), (q31, .inl (xI X, 67, .inl (fun _ => 0))), (q40, .inl (xI X, 200, .inl (fun _ => 0))), (q48, .inl (xI X, 8, .inl (fun _ => 0))), (q56, .inl (xI X, 30, .inl (fun _ => 0))), (q63, .inl (xI X, 4, .inl (upd (upd (upd (upd (fun _ => 0) 0 (-1)) 1 (-1)) 2 (-1)) 3 (-1)))), (q86, .inl (xI X, 4, .inl (fun _ => 0))), (q95, .inl (xI X, 160, .inl (fun _ => 0)))] : va_W) from rfl) ?_
  refine w_put (q0 := 0) (ty := .array .int) (by decide +kernel : decode prog_10_method_1_code 97 = .ok (.putfield 37, 3)) rfl fl_Md_37 (fun C T N h => by cases h; exact Or.inr ⟨rfl, rfl⟩) (by decide +kernel) rfl rfl rfl (Nat.le_of_ble_eq_true rfl) ?_
  refine w_ws (show _ = ([(h0, .inr (8, [.ref q7, .ref q15, .ref q23, .ref q31, .int 0, .ref q40, .int 0, .int 0, .int 0, .int 0, .int 0, .int 0, .ref q48, .ref q56, .int 0, .ref q63, .ref q86, .ref q95, .null, .null, .null, .null, .int 0, .int 0, .int 0, .int 0, .int 0])), (q7, .inl (xI X, 67, .inl (fun _ => 0))), (q15, .inl (xI X, 67, .inl (fun _ => 0))), (q23, .inl (xI X, 67, .inl (fun _ => 0))), (q31, .inl (xI X, 67, .inl (fun _ => 0))), (q40, .inl (xI X, 200, .inl (fun _ => 0))), (q48, .inl (xI X, 8, .inl (fun _ => 0))), (q56, .inl (xI X, 30, .inl (fun _ => 0))), (q63, .inl (xI X, 4, .inl (upd (upd (upd (upd (fun _ => 0) 0 (-1)) 1 (-1)) 2 (-1)) 3 (-1)))), (q86, .inl (xI X, 4, .inl (fun _ => 0))), (q95, .inl (xI X, 160, .inl (fun _ => 0)))] : va_W) from rfl) ?_
  refine w_aload_n (by decide +kernel : decode prog_10_method_1_code 100 = .ok (.aload_n 0, 1)) rfl ?_
  refine w_iconst (v := nI 4) (by decide +kernel : decode prog_10_method_1_code 101 = .ok (.iconst 4, 1)) (by decide) ?_
  refine w_newI (N := 4) (by decide +kernel : decode prog_10_method_1_code 102 = .ok (.newarray .int, 2)) rfl (by decide) (by decide) (by decide) (fun q102 => ?_)
  refine w_ws (show _ = ([(h0, .inr (8, [.ref q7, .ref q15, .ref q23, .ref q31, .int 0, .ref q40, .int 0, .int 0, .int 0, .int 0, .int 0, .int 0, .ref q48, .ref q56, .int 0, .ref q63, .ref q86, .ref q95, .null, .null, .null, .null, .int 0, .int 0, .int 0, .int 0, .int 0])), (q7, .inl (xI X, 67, .inl (fun _ => 0))), (q15, .inl (xI X, 67, .inl (fun _ => 0))), (q23, .inl (xI X, 67, .inl (fun _ => 0))), (q31, .inl (xI X, 67, .inl (fun _ => 0))), (q40, .inl (xI X, 200, .inl (fun _ => 0))), (q48, .inl (xI X, 8, .inl (fun _ => 0))), (q56, .inl (xI X, 30, .inl (fun _ => 0))), (q63, .inl (xI X, 4, .inl (upd (upd (upd (upd (fun _ => 0) 0 (-1)) 1 (-1)) 2 (-1)) 3 (-1)))), (q86, .inl (xI X, 4, .inl (fun _ => 0))), (q95, .inl (xI X, 160, .inl (fun _ => 0))), (q102, .inl (xI X, 4, .inl (fun _ => 0)))] : va_W) from rfl) ?_
  refine w_put (q0 := 0) (ty := .array .int) (by decide +kernel : decode prog_10_method_1_code 104 = .ok (.putfield 40, 3)) rfl fl_Md_40 (fun C T N h => by cases h; exact Or.inr ⟨rfl, rfl⟩) (by decide +kernel) rfl rfl rfl (Nat.le_of_ble_eq_true rfl) ?_
  refine w_ws (show _ = ([(h0, .inr (8, [.ref q7, .ref q15, .ref q23, .ref q31, .int 0, .ref q40, .int 0, .int 0, .int 0, .int 0, .int 0, .int 0, .ref q48, .ref q56, .int 0, .ref q63, .ref q86, .ref q95, .ref q102, .null, .null, .null, .int 0, .int 0, .int 0, .int 0, .int 0])), (q7, .inl (xI X, 67, .inl (fun _ => 0))), (q15, .inl (xI X, 67, .inl (fun _ => 0))), (q23, .inl (xI X, 67, .inl (fun _ => 0))), (q31, .inl (xI X, 67, .inl (fun _ => 0))), (q40, .inl (xI X, 200, .inl (fun _ => 0))), (q48, .inl (xI X, 8, .inl (fun _ => 0))), (q56, .inl (xI X, 30, .inl (fun _ => 0))), (q63, .inl (xI X, 4, .inl (upd (upd (upd (upd (fun _ => 0) 0 (-1)) 1 (-1)) 2 (-1)) 3 (-1)))), (q86, .inl (xI X, 4, .inl (fun _ => 0))), (q95, .inl (xI X, 160, .inl (fun _ => 0))), (q102, .inl (xI X, 4, .inl (fun _ => 0)))] : va_W) from rfl) ?_
  refine w_aload_n (by decide +kernel : decode prog_10_method_1_code 107 = .ok (.aload_n 0, 1)) rfl ?_
  refine w_iconst (v := nI 4) (by decide +kernel : decode prog_10_method_1_code 108 = .ok (.iconst 4, 1)) (by decide) ?_
  refine w_newI (N := 4) (by decide +kernel : decode prog_10_method_1_code 109 = .ok (.newarray .int, 2)) rfl (by decide) (by decide) (by decide) (fun q109 => ?_)
  refine w_ws (show _ = ([(h0, .inr (8, [.ref q7, .ref q15, .ref q23, .ref q31, .int 0, .ref q40, .int 0, .int 0, .int 0, .int 0, .int 0, .int 0, .ref q48, .ref q56, .int 0, .ref q63, .ref q86, .ref q95, .ref q102, .null, .null, .null, .int 0, .int 0, .int 0, .int 0, .int 0])), (q7, .inl (xI X, 67, .inl (fun _ => 0))), (q15, .inl (xI X, 67, .inl (fun _ => 0))), (q23, .inl (xI X, 67, .inl (fun _ => 0))), (q31, .inl (xI X, 67, .inl (fun _ => 0))), (q40, .inl (xI X, 200, .inl (fun _ => 0))), (q48, .inl (xI X, 8, .inl (fun _ => 0))), (q56, .inl (xI X, 30, .inl (fun _ => 0))), (q63, .inl (xI X, 4, .inl (upd (upd (upd (upd (fun _ => 0) 0 (-1)) 1 (-1)) 2 (-1)) 3 (-1)))), (q86, .inl (xI X, 4, .inl (fun _ => 0))), (q95, .inl (xI X, 160, .inl (fun _ => 0))), (q102, .inl (xI X, 4, .inl (fun _ => 0))), (q109, .inl (xI X, 4, .inl (fun _ => 0)))] : va_W) from rfl) ?_
  refine w_put (q0 := 0) (ty := .array .int) (by decide +kernel : decode prog_10_method_1_code 111 = .ok (.putfield 43, 3)) rfl fl_Md_43 (fun C T N h => by cases h; exact Or.inr ⟨rfl, rfl⟩) (by decide +kernel) rfl rfl rfl (Nat.le_of_ble_eq_true rfl) ?_
  refine w_ws (show _ = ([(h0, .inr (8, [.ref q7, .ref q15, .ref q23, .ref q31, .int 0, .ref q40, .int 0, .int 0, .int 0, .int 0, .int 0, .int 0, .ref q48, .ref q56, .int 0, .ref q63, .ref q86, .ref q95, .ref q102, .ref q109, .null, .null, .int 0, .int 0, .int 0, .int 0, .int 0])), (q7, .inl (xI X, 67, .inl (fun _ => 0))), (q15, .inl (xI X, 67, .inl (fun _ => 0))), (q23, .inl (xI X, 67, .inl (fun _ => 0))), (q31, .inl (xI X, 67, .inl (fun _ => 0))), (q40, .inl (xI X, 200, .inl (fun _ => 0))), (q48, .inl (xI X, 8, .inl (fun _ => 0))), (q56, .inl (xI X, 30, .inl (fun _ => 0))), (q63, .inl (xI X, 4, .inl (upd (upd (upd (upd (fun _ => 0) 0 (-1)) 1 (-1)) 2 (-1)) 3 (-1)))), (q86, .inl (xI X, 4, .inl (fun _ => 0))), (q95, .inl (xI X, 160, .inl (fun _ => 0))), (q102, .inl (xI X, 4, .inl (fun _ => 0))), (q109, .inl (xI X, 4, .inl (fun _ => 0)))] : va_W) from rfl) ?_
  refine w_aload_n (by decide +kernel : decode prog_10_method_1_code 114 = .ok (.aload_n 0, 1)) rfl ?_
  refine w_iconst (v := nI 4) (by decide +kernel : decode prog_10_method_1_code 115 = .ok (.iconst 4, 1)) (by decide) ?_
  refine w_newI (N := 4) (by decide +kernel : decode prog_10_method_1_code 116 = .ok (.newarray .int, 2)) rfl (by decide) (by decide) (by decide) (fun q116 => ?_)
  refine w_ws (show _ = ([(h0, .inr (8, [.ref q7, .ref q15, .ref q23, .ref q31, .int 0, .ref q40, .int 0, .int 0, .int 0, .int 0, .int 0, .int 0, .ref q48, .ref q56, .int 0, .ref q63, .ref q86, .ref q95, .ref q102, .ref q109, .null, .null, .int 0, .int 0, .int 0, .int 0, .int 0])), (q7, .inl (xI X, 67, .inl (fun _ => 0))), (q15, .inl (xI X, 67, .inl (fun _ => 0))), (q23, .inl (xI X, 67, .inl (fun _ => 0))), (q31, .inl (xI X, 67, .inl (fun _ => 0))), (q40, .inl (xI X, 200, .inl (fun _ => 0))), (q48, .inl (xI X, 8, .inl (fun _ => 0))), (q56, .inl (xI X, 30, .inl (fun _ => 0))), (q63, .inl (xI X, 4, .inl (upd (upd (upd (upd (fun _ => 0) 0 (-1)) 1 (-1)) 2 (-1)) 3 (-1)))), (q86, .inl (xI X, 4, .inl (fun _ => 0))), (q95, .inl (xI X, 160, .inl (fun _ => 0))), (q102, .inl (xI X, 4, .inl (fun _ => 0))), (q109, .inl (xI X, 4, .inl (fun _ => 0))), (q116, .inl (xI X, 4, .inl (fun _ => 0)))] : va_W) from rfl) ?_
  refine w_put (q0 := 0) (ty := .array .int) (by decide +kernel : decode prog_10_method_1_code 118 = .ok (.putfield 46, 3)) rfl fl_Md_46 (fun C T N h => by cases h; exact Or.inr ⟨rfl, rfl⟩) (by decide +kernel) rfl rfl rfl (Nat.le_of_ble_eq_true rfl) ?_
  refine w_ws (show _ = ([(h0, .inr (8, [.ref q7, .ref q15, .ref q23, .ref q31, .int 0, .ref q40, .int 0, .int 0, .int 0, .int 0, .int 0, .int 0, .ref q48, .ref q56, .int 0, .ref q63, .ref q86, .ref q95, .ref q102, .ref q109, .ref q116, .null, .int 0, .int 0, .int 0, .int 0, .int 0])), (q7, .inl (xI X, 67, .inl (fun _ => 0))), (q15, .inl (xI X, 67, .inl (fun _ => 0))), (q23, .inl (xI X, 67, .inl (fun _ => 0))), (q31, .inl (xI X, 67, .inl (fun _ => 0))), (q40, .inl (xI X, 200, .inl (fun _ => 0))), (q48, .inl (xI X, 8, .inl (fun _ => 0))), (q56, .inl (xI X, 30, .inl (fun _ => 0))), (q63, .inl (xI X, 4, .inl (upd (upd (upd (upd (fun _ => 0) 0 (-1)) 1 (-1)) 2 (-1)) 3 (-1)))), (q86, .inl (xI X, 4, .inl (fun _ => 0))), (q95, .inl (xI X, 160, .inl (fun _ => 0))), (q102, .inl (xI X, 4, .inl (fun _ => 0))), (q109, .inl (xI X, 4, .inl (fun _ => 0))), (q116, .inl (xI X, 4, .inl (fun _ => 0)))] : va_W) from rfl) ?_
  refine w_aload_n (by decide +kernel : decode prog_10_method_1_code 121 = .ok (.aload_n 0, 1)) rfl ?_
  refine w_bipush (v := nI 30) (by decide +kernel : decode prog_10_method_1_code 122 = .ok (.bipush 30, 2)) (by decide) ?_
  refine w_newI (N := 30) (by decide +kernel : decode prog_10_method_1_code 124 = .ok (.newarray .int, 2)) rfl (by decide) (by decide) (by decide) (fun q124 => ?_)
  refine w_ws (show _ = ([(h0, .inr (8, [.ref q7, .ref q15, .ref q23, .ref q31, .int 0, .ref q40, .int 0, .int 0, .int 0, .int 0, .int 0, .int 0, .ref q48, .ref q56, .int 0, .ref q63, .ref q86, .ref q95, .ref q102, .ref q109, .ref q116, .null, .int 0, .int 0, .int 0, .int 0, .int 0])), (q7, .inl (xI X, 67, .inl (fun _ => 0))), (q15, .inl (xI X, 67, .inl (fun _ => 0))), (q23, .inl (xI X, 67, .inl (fun _ => 0))), (q31, .inl (xI X, 67, .inl (fun _ => 0))), (q40, .inl (xI X, 200, .inl (fun _ => 0))), (q48, .inl (xI X, 8, .inl (fun _ => 0))), (q56, .inl (xI X, 30, .inl (fun _ => 0))), (q63, .inl (xI X, 4, .inl (upd (upd (upd (upd (fun _ => 0) 0 (-1)) 1 (-1)) 2 (-1)) 3 (-1)))), (q86, .inl (xI X, 4, .inl (fun _ => 0))), (q95, .inl (xI X, 160, .inl (fun _ => 0))), (q102, .inl (xI X, 4, .inl (fun _ => 0))), (q109, .inl (xI X, 4, .inl (fun _ => 0))), (q116, .inl (xI X, 4, .inl (fun _ => 0))), (q124, .inl (xI X, 30, .inl (fun _ => 0)))] : va_W) from rfl) ?_
  refine w_put (q0 := 0) (ty := .array .int) (by decide +kernel : decode prog_10_method_1_code 126 = .ok (.putfield 49, 3)) rfl fl_Md_49 (fun C T N h => by cases h; exact Or.inr ⟨rfl, rfl⟩) (by decide +kernel) rfl rfl rfl (Nat.le_of_ble_eq_true rfl) ?_
  refine w_ws (show _ = ([(h0, .inr (8, [.ref q7, .ref q15, .ref q23, .ref q31, .int 0, .ref q40, .int 0, .int 0, .int 0, .int 0, .int 0, .int 0, .ref q48, .ref q56, .int 0, .ref q63, .ref q86, .ref q95, .ref q102, .ref q109, .ref q116, .ref q124, .int 0, .int 0, .int 0, .int 0, .int 0])), (q7, .inl (xI X, 67, .inl (fun _ => 0))), (q15, .inl (xI X, 67, .inl (fun _ => 0))), (q23, .inl (xI X, 67, .inl (fun _ => 0))), (q31, .inl (xI X, 67, .inl (fun _ => 0))), (q40, .inl (xI X, 200, .inl (fun _ => 0))), (q48, .inl (xI X, 8, .inl (fun _ => 0))), (q56, .inl (xI X, 30, .inl (fun _ => 0))), (q63, .inl (xI X, 4, .inl (upd (upd (upd (upd (fun _ => 0) 0 (-1)) 1 (-1)) 2 (-1)) 3 (-1)))), (q86, .inl (xI X, 4, .inl (fun _ => 0))), (q95, .inl (xI X, 160, .inl (fun _ => 0))), (q102, .inl (xI X, 4, .inl (fun _ => 0))), (q109, .inl (xI X, 4, .inl (fun _ => 0))), (q116, .inl (xI X, 4, .inl (fun _ => 0))), (q124, .inl (xI X, 30, .inl (fun _ => 0)))] : va_W) from rfl) ?_
  refine w_aload_n (by decide +kernel : decode prog_10_method_1_code 129 = .ok (.aload_n 0, 1)) rfl ?_
  have hb1 : Ct ΛM mt_Md_begins 0 [.ref 0] (mkS [fun _ => 0, (fun _ => 0), (fun _ => 0), (fun _ => 0), (fun _ => 0), (fun _ => 0), (fun _ => 0), (fun _ => 0), (upd (upd (upd (upd (fun _ => 0) 0 (-1)) 1 (-1)) 2 (-1)) 3 (-1)), (fun _ => 0), (fun _ => 0), (fun _ => 0), (fun _ => 0), (fun _ => 0), (fun _ => 0)]) (PU (mS (mkS [fun _ => 0, (fun _ => 0), (fun _ => 0), (fun _ => 0), (fun _ => 0), (fun _ => 0), (fun _ => 0), (fun _ => 0), (upd (upd (upd (upd (fun _ => 0) 0 (-1)) 1 (-1)) 2 (-1)) 3 (-1)), (fun _ => 0), (fun _ => 0), (fun _ => 0), (fun _ => 0), (fun _ => 0), (fun _ => 0)]) (beg z0) z0)) := by
    have h := m_begins (mkS [fun _ => 0, (fun _ => 0), (fun _ => 0), (fun _ => 0), (fun _ => 0), (fun _ => 0), (fun _ => 0), (fun _ => 0), (upd (upd (upd (upd (fun _ => 0) 0 (-1)) 1 (-1)) 2 (-1)) 3 (-1)), (fun _ => 0), (fun _ => 0), (fun _ => 0), (fun _ => 0), (fun _ => 0), (fun _ => 0)]) z0 z0
    have e : mS (mkS [fun _ => 0, (fun _ => 0), (fun _ => 0), (fun _ => 0), (fun _ => 0), (fun _ => 0), (fun _ => 0), (fun _ => 0), (upd (upd (upd (upd (fun _ => 0) 0 (-1)) 1 (-1)) 2 (-1)) 3 (-1)), (fun _ => 0), (fun _ => 0), (fun _ => 0), (fun _ => 0), (fun _ => 0), (fun _ => 0)]) z0 z0 = (mkS [fun _ => 0, (fun _ => 0), (fun _ => 0), (fun _ => 0), (fun _ => 0), (fun _ => 0), (fun _ => 0), (fun _ => 0), (upd (upd (upd (upd (fun _ => 0) 0 (-1)) 1 (-1)) 2 (-1)) 3 (-1)), (fun _ => 0), (fun _ => 0), (fun _ => 0), (fun _ => 0), (fun _ => 0), (fun _ => 0)]) := by
      funext k
      unfold mS s_row
      by_cases h6 : k = 6
      · subst h6; rfl
      · by_cases h1 : k = 1
        · subst h1; rfl
        · simp [h6, h1]
    rw [e] at h
    exact h
  refine w_callV (ad' := mkA (xA X) [h0, q7, q15, q23, q31, q40, q48, q56, q63, q86, q95, q102, q109, q116, q124]) (σ := (mkS [fun _ => 0, (fun _ => 0), (fun _ => 0), (fun _ => 0), (fun _ => 0), (fun _ => 0), (fun _ => 0), (fun _ => 0), (upd (upd (upd (upd (fun _ => 0) 0 (-1)) 1 (-1)) 2 (-1)) 3 (-1)), (fun _ => 0), (fun _ => 0), (fun _ => 0), (fun _ => 0), (fun _ => 0), (fun _ => 0)])) (by decide +kernel : decode prog_10_method_1_code 130 = .ok (.invokevirtual 52, 3)) lk_Md_52 hb1 rfl rfl rfl rfl (fun k hk => if_neg (by omega)) (by decide) (by decide) (by decide) (fun σ1 h1 => ?_)
  subst h1
  refine w_aload_n (by decide +kernel : decode prog_10_method_1_code 133 = .ok (.aload_n 0, 1)) rfl ?_
  refine w_get (q0 := 0) (v := .ref q7) (by decide +kernel : decode prog_10_method_1_code 134 = .ok (.getfield 7, 3)) fl_Md_7 rfl rfl ?_
  refine w_iconst (v := nI 2) (by decide +kernel : decode prog_10_method_1_code 137 = .ok (.iconst 2, 1)) (by decide) ?_
  refine w_iconst (v := nI 1) (by decide +kernel : decode prog_10_method_1_code 138 = .ok (.iconst 1, 1)) (by decide) ?_
  refine w_iast (j := 2) (q0 := 1) (N := 67) (f := beg z0) (by decide +kernel : decode prog_10_method_1_code 139 = .ok (.iastore, 1)) rfl rfl (by decide) (by decide) ?_
  exact w_ret hR (by decide +kernel : decode prog_10_method_1_code 140 = .ok (.return_, 1)) (by decide) (by decide) (mkA (xA X) [h0, q7, q15, q23, q31, q40, q48, q56, q63, q86, q95, q102, q109, q116, q124]) (s_up (mS (mkS [fun _ => 0, (fun _ => 0), (fun _ => 0), (fun _ => 0), (fun _ => 0), (fun _ => 0), (fun _ => 0), (fun _ => 0), (upd (upd (upd (upd (fun _ => 0) 0 (-1)) 1 (-1)) 2 (-1)) 3 (-1)), (fun _ => 0), (fun _ => 0), (fun _ => 0), (fun _ => 0), (fun _ => 0), (fun _ => 0)]) (beg z0) z0) 1 2 (nI 1)) rfl ⟨⟨rfl, rfl, rfl, rfl⟩, rfl, fun _ => rfl, fun i hi => ⟨by rcases (show i = 0 ∨ i = 1 ∨ i = 2 ∨ i = 3 by omega) with rfl | rfl | rfl | rfl <;> rfl, rfl, rfl⟩⟩ rfl
