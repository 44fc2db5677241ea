/-! BOTH SIDE BY SIDE: the type's cells and the reference's; one call of each -/
abbrev ΛL : Lay := [.inr (0, [some 1, some 19, none, some 28, some 29, some 31, some 33, some 37, some 41]), .inr (1, [some 2, some 3, some 4, some 5, some 6, some 7, some 8, some 9, none, none, none, none]), .inl (false, 4), .inl (false, 12), .inl (false, 8), .inl (false, 8), .inl (false, 8), .inl (false, 8), .inl (false, 8), .inl (false, 8), .inr (1, [some 11, some 12, some 13, some 14, some 15, some 16, some 17, some 18, none, none, none, none]), .inl (false, 4), .inl (false, 12), .inl (false, 8), .inl (false, 8), .inl (false, 8), .inl (false, 8), .inl (false, 8), .inl (false, 8), .inr (1, [some 20, some 21, some 22, some 23, some 24, some 25, some 26, some 27, none, none, none, none]), .inl (false, 4), .inl (false, 12), .inl (false, 8), .inl (false, 8), .inl (false, 8), .inl (false, 8), .inl (false, 8), .inl (false, 8), .inr (2, [some 1, some 10]), .inr (3, [some 30, none, none, none, none, none]), .inl (true, 200), .inr (4, [some 32, none]), .inl (false, 30), .inr (5, [some 34, some 35, some 36]), .inl (false, 4), .inl (false, 4), .inl (false, 160), .inr (6, [some 38, some 39, some 40]), .inl (false, 4), .inl (false, 4), .inl (false, 4), .inr (7, [some 42, none, none, none, none, none]), .inl (false, 30), .inr (8, [some 44, some 45, some 46, some 47, none, some 48, none, none, none, none, none, none, some 49, some 50, none, some 51, some 52, some 53, some 54, some 55, some 56, some 57, none, none, none, none, none]), .inl (false, 67), .inl (false, 67), .inl (false, 67), .inl (false, 67), .inl (false, 200), .inl (false, 8), .inl (false, 30), .inl (false, 4), .inl (false, 4), .inl (false, 160), .inl (false, 4), .inl (false, 4), .inl (false, 4), .inl (false, 30)]
abbrev ixC : List Nat := [0, 1, 2, 3, 4, 5, 6, 7, 8, 9, 10, 11, 12, 13, 14, 15, 16, 17, 18, 19, 20, 21, 22, 23, 24, 25, 26, 27, 28, 29, 30, 31, 32, 33, 34, 35, 36, 37, 38, 39, 40, 41, 42]
abbrev ixM : List Nat := [43, 44, 45, 46, 47, 48, 49, 50, 51, 52, 53, 54, 55, 56, 57]
theorem pos_no : ∀ (is : List Nat) (j k : Nat), k ∉ is → pos is j k = none := by
  intro is
  induction is with
  | nil => intro j k _; rfl
  | cons a r ih =>
    intro j k h
    have h1 : a ≠ k := fun e => h (by rw [e]; exact List.mem_cons_self)
    have h2 : k ∉ r := fun e => h (List.mem_cons_of_mem _ e)
    show (if a = k then some j else pos r (j + 1) k) = none
    rw [if_neg h1]; exact ih _ _ h2
theorem posC : ∀ k : Fin 43, pos ixC 0 k.val = some k.val := by decide
theorem posM : ∀ k : Fin 15, pos ixM 0 (43 + k.val) = some k.val := by decide
theorem memC : ∀ k ∈ ixC, k < 43 := by decide
theorem memM : ∀ k ∈ ixM, 43 ≤ k := by decide
theorem overC {σ ρ : Store} {k : Nat} (h : k < 43) : over σ ixC ρ k = ρ k := by
  unfold over
  rw [posC ⟨k, h⟩]
theorem overC_n {σ ρ : Store} {k : Nat} (h : 43 ≤ k) : over σ ixC ρ k = σ k := by
  unfold over
  rw [pos_no ixC 0 k (fun z => by have := memC k z; omega)]
theorem overM {σ ρ : Store} {k : Nat} (h : k < 15) : over σ ixM ρ (43 + k) = ρ k := by
  unfold over
  rw [posM ⟨k, h⟩]
theorem overM_n {σ ρ : Store} {k : Nat} (h : k < 43) : over σ ixM ρ k = σ k := by
  unfold over
  rw [pos_no ixM 0 k (fun z => by have := memM k z; omega)]
theorem ioC : ∀ k : Fin 43, io ixC k.val = k.val := by decide
theorem ioM : ∀ k : Fin 15, io ixM k.val = 43 + k.val := by decide
theorem subC {σ : Store} {k : Nat} (h : k < 43) : sub ixC σ k = σ k := by
  show σ (io ixC k) = σ k
  rw [ioC ⟨k, h⟩]
theorem subM {σ : Store} {k : Nat} (h : k < 15) : sub ixM σ k = σ (43 + k) := by
  show σ (io ixM k) = _
  rw [ioM ⟨k, h⟩]
theorem RX.cg {σ σ' τ τ' : Store} {f : Row} (h : RX σ τ f) (e : ∀ k, k < 43 → σ' k = σ k) (d0 : τ' 0 = τ 0) (d2 : τ' 2 = τ 2) (d5 : τ' 5 = τ 5) (d7 : τ' 7 = τ 7) (d8 : τ' 8 = τ 8) (d9 : τ' 9 = τ 9) (d10 : τ' 10 = τ 10) (d11 : τ' 11 = τ 11) (d12 : τ' 12 = τ 12) (d13 : τ' 13 = τ 13) (d14 : τ' 14 = τ 14) : RX σ' τ' f := by
  obtain ⟨a1, a2, a3, a4, a5, a6, a7⟩ := h
  refine ⟨a1.cg (k8 (e 1 (by decide)) (e 2 (by decide)) (e 3 (by decide)) (e 4 (by decide)) (e 5 (by decide)) (e 6 (by decide)) (e 7 (by decide)) (e 8 (by decide))), ?_, ?_, ?_, ?_, ?_, ?_⟩
  · have ek : ∀ k, k < 8 → kV2 σ' k = kV2 σ k := k8 (e 19 (by decide)) (e 20 (by decide)) (e 21 (by decide)) (e 22 (by decide)) (e 23 (by decide)) (e 24 (by decide)) (e 25 (by decide)) (e 26 (by decide))
    unfold RK at a2 ⊢
    rw [e 0 (by decide), d0, d2]
    rcases a2 with ⟨x1, x2⟩ | ⟨x1, x2, x3⟩
    · exact Or.inl ⟨x1, x2⟩
    · exact Or.inr ⟨x1, x2, x3.cg ek⟩
  · unfold RT TP at a3 ⊢
    rw [e 29 (by decide), e 30 (by decide), d0, d5]
    exact a3
  · unfold RR at a4 ⊢
    rw [e 31 (by decide), e 32 (by decide), d0, d7]
    exact a4
  · unfold RS ShI at a5 ⊢
    rw [e 34 (by decide), e 35 (by decide), e 36 (by decide), d8, d9, d10]
    exact a5
  · unfold RH RHs at a6 ⊢
    rw [e 38 (by decide), e 39 (by decide), e 40 (by decide), d11, d12, d13]
    exact a6
  · unfold RA at a7 ⊢
    rw [e 41 (by decide), e 42 (by decide), d0, d14]
    exact a7
/-- the law's invariant -/
def Jv (σ : Store) : Prop := RX (sub ixC σ) (sub ixM σ) (sub ixM σ 1)
theorem Jv.of {σ ρ ρ2 : Store} (h : RX ρ ρ2 (ρ2 1)) : Jv (over (over σ ixC ρ) ixM ρ2) := by
  have m : ∀ k, k < 15 → sub ixM (over (over σ ixC ρ) ixM ρ2) k = ρ2 k := fun k hk => (subM hk).trans (overM hk)
  unfold Jv
  rw [m 1 (by decide)]
  exact h.cg (fun k hk => by rw [subC hk, overM_n hk, overC hk]) (m 0 (by decide)) (m 2 (by decide)) (m 5 (by decide)) (m 7 (by decide)) (m 8 (by decide)) (m 9 (by decide)) (m 10 (by decide)) (m 11 (by decide)) (m 12 (by decide)) (m 13 (by decide)) (m 14 (by decide))
theorem eqM {σ τ : Store} (h : ∀ k, k < 15 → σ k = τ k) : Eqv ΛM σ τ := by
  intro k s hk j hj
  have : k < 15 := (List.getElem?_eq_some_iff.mp hk).1
  rw [h k this]
/-- behind the type's call: the reference's, with the same answer -/
abbrev ST (μ : Mt) (d : Nat) (as : List Value) : Option Value → Store → Prop := PI (fun r σ1 => Ct ΛL μ d (.ref 43 :: as) σ1 (PI (fun r2 σ2 => r = r2 ∧ Jv σ2)))
abbrev STL (μ : Mt) (d : Nat) (as : List Value) : Option Value → Store → Prop := PL (fun r σ1 => Ct ΛL μ d (.ref 43 :: as) σ1 (PL (fun r2 σ2 => r = r2 ∧ Jv σ2)))
set_option maxRecDepth 20000 in
theorem step {σ : Store} {μ1 μ2 : Mt} {d1 d2 : Nat} {as : List Value} {P1 P2 : Int32 → Store → Prop} (hC : Ct ΛC μ1 d1 (.ref 0 :: as) (sub ixC σ) (PI P1)) (hM : Ct ΛM μ2 d2 (.ref 0 :: as) (sub ixM σ) (PI P2)) (hJ : ∀ r1 r2 ρ ρ2, P1 r1 ρ → P2 r2 ρ2 → r1 = r2 ∧ RX ρ ρ2 (ρ2 1)) (ha : as.map (re ixC) = as) (hb : as.map (re ixM) = as) : Ct ΛL μ1 d1 (.ref 0 :: as) σ (ST μ2 d2 as) := by
  refine (Ct.embI ixC hC (by decide +kernel) (as' := .ref 0 :: as) (by rw [List.map_cons, ha]; rfl)).post ?_
  rintro w σ1 ⟨r, e, ρ, hp, rfl⟩
  refine ⟨r, e, ?_⟩
  have hM' : Ct ΛM μ2 d2 (.ref 0 :: as) (sub ixM (over σ ixC ρ)) (PI P2) := Ct.eqv (eqM (fun k hk => by rw [subM hk, subM hk, overC_n (by omega)])) hM
  refine (Ct.embI ixM hM' (by decide +kernel) (as' := .ref 43 :: as) (by rw [List.map_cons, hb]; rfl)).post ?_
  rintro w2 σ2 ⟨r2, e2, ρ2, hp2, rfl⟩
  obtain ⟨h1, h2⟩ := hJ r r2 ρ ρ2 hp hp2
  exact ⟨r2, e2, h1, Jv.of h2⟩
set_option maxRecDepth 20000 in
theorem stepL {σ : Store} {μ1 μ2 : Mt} {d1 d2 : Nat} {as : List Value} {P1 P2 : Int64 → Store → Prop} (hC : Ct ΛC μ1 d1 (.ref 0 :: as) (sub ixC σ) (PL P1)) (hM : Ct ΛM μ2 d2 (.ref 0 :: as) (sub ixM σ) (PL P2)) (hJ : ∀ r1 r2 ρ ρ2, P1 r1 ρ → P2 r2 ρ2 → r1 = r2 ∧ RX ρ ρ2 (ρ2 1)) (ha : as.map (re ixC) = as) (hb : as.map (re ixM) = as) : Ct ΛL μ1 d1 (.ref 0 :: as) σ (STL μ2 d2 as) := by
  refine (Ct.embL ixC hC (by decide +kernel) (as' := .ref 0 :: as) (by rw [List.map_cons, ha]; rfl)).post ?_
  rintro w σ1 ⟨r, e, ρ, hp, rfl⟩
  refine ⟨r, e, ?_⟩
  have hM' : Ct ΛM μ2 d2 (.ref 0 :: as) (sub ixM (over σ ixC ρ)) (PL P2) := Ct.eqv (eqM (fun k hk => by rw [subM hk, subM hk, overC_n (by omega)])) hM
  refine (Ct.embL ixM hM' (by decide +kernel) (as' := .ref 43 :: as) (by rw [List.map_cons, hb]; rfl)).post ?_
  rintro w2 σ2 ⟨r2, e2, ρ2, hp2, rfl⟩
  obtain ⟨h1, h2⟩ := hJ r r2 ρ ρ2 hp hp2
  exact ⟨r2, e2, h1, Jv.of h2⟩
theorem mref {μ : Mt} {d : Nat} {as : List Value} {τ : Store} {P : Option Value → Store → Prop} (h : Ct ΛM μ d as (mS τ (τ 1) (τ 6)) P) : Ct ΛM μ d as τ P := by
  rw [mS_self] at h; exact h
theorem mrefF {μ : Mt} {d : Nat} {as : List Value} {τ S : Store} {f b : Row} {v : Int32} (h : Ct ΛM μ d as (mS τ (τ 1) (τ 6)) (PF v (mS S f b))) : Ct ΛM μ d as τ (mP S v f) := by
  refine (mref h).post ?_
  rintro w σ' ⟨r, h1, h2, rfl⟩
  exact ⟨r, h1, h2, Jk.self _ _ _⟩
theorem RX.m {σ τ : Store} {f a b : Row} (h : RX σ τ f) : RX σ (mS (s_row τ 3 a) f b) f := h.cg (fun _ _ => rfl) rfl rfl rfl rfl rfl rfl rfl rfl rfl rfl rfl
theorem RX.m0 {σ τ : Store} {f b : Row} (h : RX σ τ f) : RX σ (mS τ f b) f := h.cg (fun _ _ => rfl) rfl rfl rfl rfl rfl rfl rfl rfl rfl rfl rfl
theorem stepA {σ τ' : Store} {f' : Row} {v : Int32} {μ1 μ2 : Mt} {d1 d2 : Nat} {as : List Value} (hC : Ct ΛC μ1 d1 (.ref 0 :: as) (sub ixC σ) (cP τ' v f')) (hM : Ct ΛM μ2 d2 (.ref 0 :: as) (sub ixM σ) (mP τ' v f')) (ha : as.map (re ixC) = as) (hb : as.map (re ixM) = as) : Ct ΛL μ1 d1 (.ref 0 :: as) σ (ST μ2 d2 as) := by
  refine step hC hM ?_ ha hb
  rintro r1 r2 ρ ρ2 ⟨e1, h1⟩ ⟨e2, a, b, rfl⟩
  exact ⟨e1.trans e2.symm, h1.m⟩
theorem Jv.sv {σ τ : Store} {f : Row} (h : RX σ τ f) : SvI τ := by
  intro i hi
  rcases h.2.2.2.2.2.1 i hi with ⟨e, _⟩ | ⟨e, _⟩ | ⟨e, _⟩
  · rw [e]; exact Rng.of (by decide)
  · rw [e]; exact Rng.of (by decide)
  · rw [e]; exact Rng.of (by decide)
theorem st_set {σ : Store} (h : Jv σ) (x y : Int32) : Ct ΛL mt_LS_set 2 (.ref 0 :: [.int x, .int y]) σ (ST mt_Md_set 1 [.int x, .int y]) := by
  exact stepA (k_set h x y) (mref (p_set _ _ _ h.i x y)) rfl rfl
theorem st_lawOf {σ : Store} (h : Jv σ) (x : Int32) : Ct ΛL mt_LS_lawOf 2 (.ref 0 :: [.int x]) σ (ST mt_Md_lawOf 1 [.int x]) := by
  exact stepA (k_lawOf h x) (mref (p_lawOf _ _ _ h.i x)) rfl rfl
theorem st_person {σ : Store} (h : Jv σ) (x y z u v : Int32) : Ct ΛL mt_LS_person 2 (.ref 0 :: [.int x, .int y, .int z, .int u, .int v]) σ (ST mt_Md_person 1 [.int x, .int y, .int z, .int u, .int v]) := by
  exact stepA (k_person h x y z u v) (mref (p_person _ _ _ h.i x y z u v)) rfl rfl
theorem st_of {σ : Store} (h : Jv σ) (x y : Int32) : Ct ΛL mt_LS_of 1 (.ref 0 :: [.int x, .int y]) σ (ST mt_Md_of 1 [.int x, .int y]) := by
  exact stepA (k_of h x y) (mref (p_of _ _ _ h.i x y)) rfl rfl
theorem st_does {σ : Store} (h : Jv σ) (x y : Int32) : Ct ΛL mt_LS_does 1 (.ref 0 :: [.int x, .int y]) σ (ST mt_Md_does 2 [.int x, .int y]) := by
  exact stepA (k_does h x y) (mref (p_does _ _ _ h.i x y)) rfl rfl
theorem st_mind {σ : Store} (h : Jv σ) (x y z : Int32) : Ct ΛL mt_LS_mind 2 (.ref 0 :: [.int x, .int y, .int z]) σ (ST mt_Md_mind 1 [.int x, .int y, .int z]) := by
  exact stepA (k_mind h x y z) (mref (p_mind _ _ _ h.i x y z)) rfl rfl
theorem st_age {σ : Store} (h : Jv σ) (x y : Int32) : Ct ΛL mt_LS_age 1 (.ref 0 :: [.int x, .int y]) σ (ST mt_Md_age 1 [.int x, .int y]) := by
  exact stepA (k_age h x y) (mref (p_age _ _ _ h.i x y)) rfl rfl
theorem st_bring {σ : Store} (h : Jv σ) (x y : Int32) : Ct ΛL mt_LS_bring 2 (.ref 0 :: [.int x, .int y]) σ (ST mt_Md_bring 1 [.int x, .int y]) := by
  exact stepA (k_bring h x y) (mref (p_bring _ _ _ h.i x y)) rfl rfl
theorem st_seek {σ : Store} (h : Jv σ) (x y : Int32) : Ct ΛL mt_LS_seek 1 (.ref 0 :: [.int x, .int y]) σ (ST mt_Md_seek 1 [.int x, .int y]) := by
  exact stepA (k_seek h x y) (mref (p_seek _ _ _ h.i x y)) rfl rfl
theorem st_place {σ : Store} (h : Jv σ) (x y : Int32) : Ct ΛL mt_LS_place 2 (.ref 0 :: [.int x, .int y]) σ (ST mt_Md_place 2 [.int x, .int y]) := by
  exact stepA (k_place h x y) (mref (p_place _ _ _ h.i x y)) rfl rfl
theorem st_cover {σ : Store} (h : Jv σ) (x y : Int32) : Ct ΛL mt_LS_cover 2 (.ref 0 :: [.int x, .int y]) σ (ST mt_Md_cover 1 [.int x, .int y]) := by
  exact stepA (k_cover h x y) (mref (p_cover _ _ _ h.i x y)) rfl rfl
theorem st_years {σ : Store} (h : Jv σ) (x : Int32) : Ct ΛL mt_LS_years 5 (.ref 0 :: [.int x]) σ (ST mt_Md_years 5 [.int x]) := by
  exact stepA (k_years h x) (mref (p_years _ _ _ h.i x)) rfl rfl
theorem st_seed {σ : Store} (h : Jv σ) (x : Int32) : Ct ΛL mt_LS_seed 0 (.ref 0 :: [.int x]) σ (ST mt_Md_seed 1 [.int x]) := by
  exact stepA (k_seed h x) (mref (p_seed _ _ _ h.i x)) rfl rfl
theorem st_year {σ : Store} (h : Jv σ)  : Ct ΛL mt_LS_year 5 (.ref 0 :: []) σ (ST mt_Md_year 4 []) := by
  exact stepA (k_year h ) (mref (p_year _ _ _ h.i )) rfl rfl
theorem st_nights {σ : Store} (h : Jv σ) (x : Int32) : Ct ΛL mt_LS_nights 6 (.ref 0 :: [.int x]) σ (ST mt_Md_nights 5 [.int x]) := by
  exact stepA (k_nights h x) (mref (p_nights _ _ _ h.i x)) rfl rfl
theorem st_state {σ : Store} (h : Jv σ) (x : Int32) : Ct ΛL mt_LS_state 2 (.ref 0 :: [.int x]) σ (ST mt_Md_state 2 [.int x]) := by
  exact stepA (k_state h x) (mref (p_state _ _ _ h.i x)) rfl rfl
theorem st_where {σ : Store} (h : Jv σ) (x y : Int32) : Ct ΛL mt_LS_where 5 (.ref 0 :: [.int x, .int y]) σ (ST mt_Md_where 5 [.int x, .int y]) := by
  exact stepA (k_where h x y) (mref (p_where _ _ _ h.i x y)) rfl rfl
theorem st_shown {σ : Store} (h : Jv σ) (x : Int32) : Ct ΛL mt_LS_shown 6 (.ref 0 :: [.int x]) σ (ST mt_Md_shown 5 [.int x]) := by
  exact stepA (k_shown h x) (mref (p_shown _ _ _ h.i x)) rfl rfl
theorem st_all {σ : Store} (h : Jv σ)  : Ct ΛL mt_LS_all 5 (.ref 0 :: []) σ (ST mt_Md_all 4 []) := by
  exact stepA (k_all h ) (mref (p_all _ _ _ h.i )) rfl rfl
theorem st_finder {σ : Store} (h : Jv σ) (x : Int32) : Ct ΛL mt_LS_finder 6 (.ref 0 :: [.int x]) σ (ST mt_Md_finder 5 [.int x]) := by
  exact stepA (k_finder h x) (mref (p_finder _ _ _ h.i x)) rfl rfl
theorem st_safeFor {σ : Store} (h : Jv σ) (x : Int32) : Ct ΛL mt_LS_safeFor 6 (.ref 0 :: [.int x]) σ (ST mt_Md_safeFor 5 [.int x]) := by
  exact stepA (k_safeFor h x) (mref (p_safeFor _ _ _ h.i x)) rfl rfl
theorem st_kindFor {σ : Store} (h : Jv σ) (x : Int32) : Ct ΛL mt_LS_kindFor 6 (.ref 0 :: [.int x]) σ (ST mt_Md_kindFor 5 [.int x]) := by
  exact stepA (k_kindFor h x) (mref (p_kindFor _ _ _ h.i x)) rfl rfl
theorem st_witFor {σ : Store} (h : Jv σ) (x y : Int32) : Ct ΛL mt_LS_witFor 6 (.ref 0 :: [.int x, .int y]) σ (ST mt_Md_witFor 5 [.int x, .int y]) := by
  exact stepA (k_witFor h x y) (mref (p_witFor _ _ _ h.i x y)) rfl rfl
theorem st_needed {σ : Store} (h : Jv σ) (x : Int32) : Ct ΛL mt_LS_needed 7 (.ref 0 :: [.int x]) σ (ST mt_Md_needed 5 [.int x]) := by
  exact stepA (k_needed h x) (mref (p_needed _ _ _ h.i x)) rfl rfl
theorem st_fewest {σ : Store} (h : Jv σ) (x y : Int32) : Ct ΛL mt_LS_fewest 7 (.ref 0 :: [.int x, .int y]) σ (ST mt_Md_fewest 5 [.int x, .int y]) := by
  exact stepA (k_fewest h x y) (mref (p_fewest _ _ _ h.i x y)) rfl rfl
theorem st_round {σ : Store} (h : Jv σ) (x : Int32) : Ct ΛL mt_LS_round 2 (.ref 0 :: [.int x]) σ (ST mt_Md_round 2 [.int x]) := by
  exact stepA (k_round h x) (mref (p_round _ _ _ h.i x)) rfl rfl
theorem st_prove {σ : Store} (h : Jv σ) (x y : Int32) : Ct ΛL mt_LS_prove 4 (.ref 0 :: [.int x, .int y]) σ (ST mt_Md_prove 4 [.int x, .int y]) := by
  exact stepA (k_prove h x y) (mref (p_prove _ _ _ h.i x y)) rfl rfl
theorem st_many {σ : Store} (h : Jv σ) (x : Int32) : Ct ΛL mt_LS_many 2 (.ref 0 :: [.int x]) σ (ST mt_Md_many 3 [.int x]) := by
  exact stepA (k_many h x) (mref (p_many _ _ _ h.i x)) rfl rfl
theorem st_fits {σ : Store} (h : Jv σ) (x y z : Int32) : Ct ΛL mt_LS_fits 5 (.ref 0 :: [.int x, .int y, .int z]) σ (ST mt_Md_fits 5 [.int x, .int y, .int z]) := by
  exact stepA (k_fits h x y z) (mref (q_fits _ _ _ h.i h.s0 x y z)) rfl rfl
theorem st_row {σ : Store} (h : Jv σ) (x y : Int32) : Ct ΛL mt_LS_row 1 (.ref 0 :: [.int x, .int y]) σ (ST mt_Md_row 2 [.int x, .int y]) := by
  obtain ⟨r, hr, er, er2, ey⟩ := h.2.2.2.1
  exact stepA (k_row h x y) (mrefF (q_row _ _ _ x y er2 hr)) rfl rfl
theorem st_alterRow {σ : Store} (h : Jv σ) (x y z : Int32) : Ct ΛL mt_LS_alterRow 1 (.ref 0 :: [.int x, .int y, .int z]) σ (ST mt_Md_alterRow 2 [.int x, .int y, .int z]) := by
  obtain ⟨r, hr, er, er2, ey⟩ := h.2.2.2.1
  exact stepA (k_alterRow h x y z) (mrefF (q_alterRow _ _ _ x y z er2 hr)) rfl rfl
theorem st_judge {σ : Store} (h : Jv σ) (x : Int32) : Ct ΛL mt_LS_judge 4 (.ref 0 :: [.int x]) σ (ST mt_Md_judge 4 [.int x]) := by
  obtain ⟨r, hr, er, er2, ey⟩ := h.2.2.2.1
  exact stepA (k_judge h x) (mref (p_judge _ _ _ h.i x er2 hr)) rfl rfl
theorem st_minds {σ : Store} (h : Jv σ) (x y z u : Int32) : Ct ΛL mt_LS_minds 2 (.ref 0 :: [.int x, .int y, .int z, .int u]) σ (ST mt_Md_minds 2 [.int x, .int y, .int z, .int u]) := by
  exact stepA (k_minds h x y z u) (mrefF (q_minds _ _ _ h.i h.s0 x y z u)) rfl rfl
theorem st_sheet {σ : Store} (h : Jv σ) (x y z : Int32) : Ct ΛL mt_LS_sheet 2 (.ref 0 :: [.int x, .int y, .int z]) σ (ST mt_Md_sheet 2 [.int x, .int y, .int z]) := by
  exact stepA (k_sheet h x y z) (mrefF (q_sheet _ _ _ x y z)) rfl rfl
theorem st_put {σ : Store} (h : Jv σ) (x y z : Int32) : Ct ΛL mt_LS_put 2 (.ref 0 :: [.int x, .int y, .int z]) σ (ST mt_Md_put 2 [.int x, .int y, .int z]) := by
  exact stepA (k_put h x y z) (mrefF (q_put _ _ _ h.s0 x y z)) rfl rfl
theorem st_item {σ : Store} (h : Jv σ) (x y z : Int32) : Ct ΛL mt_LS_item 2 (.ref 0 :: [.int x, .int y, .int z]) σ (ST mt_Md_item 2 [.int x, .int y, .int z]) := by
  exact stepA (k_item h x y z) (mrefF (q_item _ _ _ h.s0 x y z)) rfl rfl
theorem st_shelf {σ : Store} (h : Jv σ) (x y z : Int32) : Ct ΛL mt_LS_shelf 2 (.ref 0 :: [.int x, .int y, .int z]) σ (ST mt_Md_shelf 2 [.int x, .int y, .int z]) := by
  exact stepA (k_shelf h x y z) (mrefF (q_shelf _ _ _ h.i h.s0 x y z)) rfl rfl
theorem st_taken {σ : Store} (h : Jv σ) (x y : Int32) : Ct ΛL mt_LS_taken 3 (.ref 0 :: [.int x, .int y]) σ (ST mt_Md_taken 2 [.int x, .int y]) := by
  exact stepA (k_taken h x y) (mrefF (q_taken _ _ _ h.i (Jv.sv h) x y)) rfl rfl
theorem st_trace {σ : Store} (h : Jv σ) (x : Int32) : Ct ΛL mt_LS_trace 1 (.ref 0 :: [.int x]) σ (ST mt_Md_trace 1 [.int x]) := by
  obtain ⟨r, hr, er, er2, ey⟩ := h.2.2.2.2.2.2
  exact stepA (k_trace h x) (mrefF (q_trace _ _ _ x er2 hr)) rfl rfl
theorem st_feed {σ : Store} (h : Jv σ) (x : Int64) (y : Int32) : Ct ΛL mt_LS_feed 1 (.ref 0 :: [.long x, .int y]) σ (ST mt_Md_feed 1 [.long x, .int y]) := by
  obtain ⟨t, et, hT, _⟩ := h.2.2.1
  exact stepA (k_feed h x y hT.1 hT.2.1) (mrefF (q_feed _ _ _ x y hT.1 hT.2.1)) rfl rfl
theorem st_odds {σ : Store} (h : Jv σ) (x y z : Int32) : Ct ΛL mt_LS_odds 2 (.ref 0 :: [.int x, .int y, .int z]) σ (STL mt_Md_odds 1 [.int x, .int y, .int z]) := by
  refine stepL (k_odds h x y z) (mref (q_odds _ _ _ h.i x y z)) ?_ rfl rfl
  rintro r1 r2 ρ ρ2 ⟨e1, h1⟩ ⟨e2, rfl⟩
  exact ⟨e1.trans e2.symm, h1.m0⟩
theorem st_hope {σ : Store} (h : Jv σ) (x y : Int32) : Ct ΛL mt_LS_hope 2 (.ref 0 :: [.int x, .int y]) σ (STL mt_Md_hope 1 [.int x, .int y]) := by
  refine stepL (k_hope h x y) (mref (q_hope _ _ _ h.i x y)) ?_ rfl rfl
  rintro r1 r2 ρ ρ2 ⟨e1, h1⟩ ⟨e2, rfl⟩
  exact ⟨e1.trans e2.symm, h1.m0⟩
theorem st_keep {σ : Store} (h : Jv σ) : Ct ΛL mt_LS_keep 2 (.ref 0 :: []) σ (ST mt_Md_keep 0 []) := by
  refine step (k_keep h) (m_keep _) ?_ rfl rfl
  rintro r1 r2 ρ ρ2 ⟨e1, h1⟩ ⟨e2, rfl⟩
  exact ⟨e1.trans e2.symm, h1⟩
theorem st_again {σ : Store} (h : Jv σ) : Ct ΛL mt_LS_again 2 (.ref 0 :: []) σ (ST mt_Md_again 0 []) := by
  refine step (k_again h) (m_again _) ?_ rfl rfl
  rintro r1 r2 ρ ρ2 h1 h2
  rcases h1 with ⟨a1, a2, a3⟩ | ⟨a1, a2, a3⟩
  · rcases h2 with ⟨b1, b2, rfl⟩ | ⟨b1, b2, rfl⟩
    · exact ⟨a2.trans b2.symm, a3⟩
    · exact absurd a1 b1
  · rcases h2 with ⟨b1, b2, rfl⟩ | ⟨b1, b2, rfl⟩
    · exact absurd b1 a1
    · exact ⟨a2.trans b2.symm, a3.cg (fun _ _ => rfl) rfl rfl rfl rfl rfl rfl rfl rfl rfl rfl rfl⟩
theorem st_park {σ : Store} (h : Jv σ) : Ct ΛL mt_LS_park 10 (.ref 0 :: []) σ (ST mt_Md_park 7 []) := by
  obtain ⟨t, et, hT, _⟩ := h.2.2.1
  refine step (k_park h hT) (mref (q_park _ _ _ hT)) ?_ rfl rfl
  intro r1 r2 ρ ρ2 h1 h2
  rcases hr : parkP (sub ixM σ) t (sub ixM σ 1) with e | g
  · rw [hr] at h1 h2
    obtain ⟨e1, h1⟩ := h1
    obtain ⟨e2, k, q, z, u, w, rfl⟩ := h2
    exact ⟨e1.trans e2.symm, h1⟩
  · rw [hr] at h1 h2
    obtain ⟨e1, h1⟩ := h1
    obtain ⟨e2, k, q, z, u, w, rfl⟩ := h2
    exact ⟨e1.trans e2.symm, h1⟩
theorem RX.act {σ σ' τ τ' : Store} {f : Row} {l : List Int32} (h : RX σ τ f) (hl : l.length ≤ 30) (s1 : σ' 41 1 = nI l.length) (s2 : ∀ i, i < l.length → σ' 42 i = l.getD i 0) (s3 : ∀ c, c ≠ 41 → c ≠ 42 → σ' c = σ c) (t1 : τ' 0 22 = nI l.length) (t2 : ∀ i, i < l.length → τ' 14 i = l.getD i 0) (t3 : ∀ c, c ≠ 0 → c ≠ 14 → τ' c = τ c) (t4 : ∀ j, j < 22 → τ' 0 j = τ 0 j) : RX σ' τ' f := by
  obtain ⟨a1, a2, a3, a4, a5, a6, a7⟩ := h
  refine ⟨a1.cg (k8 (s3 1 (by decide) (by decide)) (s3 2 (by decide) (by decide)) (s3 3 (by decide) (by decide)) (s3 4 (by decide) (by decide)) (s3 5 (by decide) (by decide)) (s3 6 (by decide) (by decide)) (s3 7 (by decide) (by decide)) (s3 8 (by decide) (by decide))), ?_, ?_, ?_, ?_, ?_, ⟨l.length, hl, s1, t1, fun i hi => (s2 i hi).trans (t2 i hi).symm⟩⟩
  · have ek : ∀ k, k < 8 → kV2 σ' k = kV2 σ k := k8 (s3 19 (by decide) (by decide)) (s3 20 (by decide) (by decide)) (s3 21 (by decide) (by decide)) (s3 22 (by decide) (by decide)) (s3 23 (by decide) (by decide)) (s3 24 (by decide) (by decide)) (s3 25 (by decide) (by decide)) (s3 26 (by decide) (by decide))
    unfold RK at a2 ⊢
    rw [s3 0 (by decide) (by decide), t4 4 (by decide), t3 2 (by decide) (by decide)]
    rcases a2 with ⟨x1, x2⟩ | ⟨x1, x2, x3⟩
    · exact Or.inl ⟨x1, x2⟩
    · exact Or.inr ⟨x1, x2, x3.cg ek⟩
  · unfold RT TP at a3 ⊢
    rw [s3 29 (by decide) (by decide), s3 30 (by decide) (by decide), t4 6 (by decide), t3 5 (by decide) (by decide)]
    exact a3
  · unfold RR at a4 ⊢
    rw [s3 31 (by decide) (by decide), s3 32 (by decide) (by decide), t4 14 (by decide), t3 7 (by decide) (by decide)]
    exact a4
  · unfold RS ShI at a5 ⊢
    rw [s3 34 (by decide) (by decide), s3 35 (by decide) (by decide), s3 36 (by decide) (by decide), t3 8 (by decide) (by decide), t3 9 (by decide) (by decide), t3 10 (by decide) (by decide)]
    exact a5
  · unfold RH RHs at a6 ⊢
    rw [s3 38 (by decide) (by decide), s3 39 (by decide) (by decide), s3 40 (by decide) (by decide), t3 11 (by decide) (by decide), t3 12 (by decide) (by decide), t3 13 (by decide) (by decide)]
    exact a6
theorem cC_le (k : Nat) : (cC k).length ≤ 3 := by
  unfold cC
  split <;> decide
theorem lC_le (k : Nat) : (lC k).length ≤ 8 := by
  have h := cC_le k
  unfold lC
  split
  · decide
  · decide
  · decide
  · show (cC k).length + 1 ≤ 8; omega
theorem pC_le (k n a : Nat) : (pC k n a).length ≤ 5 := by
  unfold pC
  split
  · decide
  · split <;> decide
  · decide
theorem kC_le (k n a : Nat) : (kC k n a).length ≤ 15 := by
  have h := lC_le k
  unfold kC
  split
  · have := pC_le 2 n a; have := lC_le 2; simp only [List.length_cons, List.length_append]; omega
  · have := pC_le 4 n a; have := lC_le 4; simp only [List.length_cons, List.length_append]; omega
  · decide
  · simp only [List.length_cons]; omega
theorem actC_le (w k n a : Nat) : (actC w k n a).length ≤ 30 := by
  unfold actC
  split
  · have := cC_le k; omega
  · have := lC_le k; omega
  · have := pC_le k n a; omega
  · have := kC_le k n a; omega
theorem actL_le (τ : Store) (f : Row) (x y : Int32) : (actL τ f x y).length ≤ 30 := by
  unfold actL
  split
  · exact Nat.zero_le _
  · exact actC_le _ _ _ _
theorem st_act {σ : Store} (h : Jv σ) (x y z : Int32) : Ct ΛL mt_LS_act 9 (.ref 0 :: [.int x, .int y, .int z]) σ (ST mt_Md_act 8 [.int x, .int y, .int z]) := by
  refine step (k_act h x y z) (mref (q_act _ _ _ h.i (Jv.sv h) x y z)) ?_ rfl rfl
  rintro r1 r2 ρ ρ2 ⟨e1, s1, s2, s3⟩ ⟨e2, t1, t2, t3, t4⟩
  rw [mS_self] at t3
  have e3 : ρ2 1 = sub ixM σ 1 := t3 1 (by decide) (by decide)
  rw [e3]
  exact ⟨e1.trans e2.symm, RX.act h (actL_le _ _ _ _) s1 s2 s3 t1 t2 t3 t4⟩
