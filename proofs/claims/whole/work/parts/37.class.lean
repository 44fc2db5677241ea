/-! THE PROGRAM: all its cells, and what they have to do with the reference's -/
abbrev ΛC : Lay := [.inr (0, [some 1, some 19, none, some 28, some 29, some 31, some 33, some 37, some 41]), .inr (1, [some 2, some 3, some 4, some 5, some 6, some 7, some 8, some 9, none, none, none, none]), .inl (false, 4), .inl (false, 12), .inl (false, 8), .inl (false, 8), .inl (false, 8), .inl (false, 8), .inl (false, 8), .inl (false, 8), .inr (1, [some 11, some 12, some 13, some 14, some 15, some 16, some 17, some 18, none, none, none, none]), .inl (false, 4), .inl (false, 12), .inl (false, 8), .inl (false, 8), .inl (false, 8), .inl (false, 8), .inl (false, 8), .inl (false, 8), .inr (1, [some 20, some 21, some 22, some 23, some 24, some 25, some 26, some 27, none, none, none, none]), .inl (false, 4), .inl (false, 12), .inl (false, 8), .inl (false, 8), .inl (false, 8), .inl (false, 8), .inl (false, 8), .inl (false, 8), .inr (2, [some 1, some 10]), .inr (3, [some 30, none, none, none, none, none]), .inl (true, 200), .inr (4, [some 32, none]), .inl (false, 30), .inr (5, [some 34, some 35, some 36]), .inl (false, 4), .inl (false, 4), .inl (false, 160), .inr (6, [some 38, some 39, some 40]), .inl (false, 4), .inl (false, 4), .inl (false, 4), .inr (7, [some 42, none, none, none, none, none]), .inl (false, 30)]
abbrev ixN : List Nat := [1, 2, 3, 4, 5, 6, 7, 8, 9]
abbrev ixT : List Nat := [10, 11, 12, 13, 14, 15, 16, 17, 18]
abbrev ixK : List Nat := [19, 20, 21, 22, 23, 24, 25, 26, 27]
def pv (a0 a1 a2 a3 a4 a5 a6 a7 a8 : Row) : Store := fun k => match k with
  | 0 => a0
  | 1 => a1
  | 2 => a2
  | 3 => a3
  | 4 => a4
  | 5 => a5
  | 6 => a6
  | 7 => a7
  | _ => a8
abbrev nV (σ : Store) : Store := pv (σ 1) (σ 2) (σ 3) (σ 4) (σ 5) (σ 6) (σ 7) (σ 8) (σ 9)
abbrev tV (σ : Store) : Store := pv (σ 10) (σ 11) (σ 12) (σ 13) (σ 14) (σ 15) (σ 16) (σ 17) (σ 18)
abbrev kV2 (σ : Store) : Store := pv (σ 19) (σ 20) (σ 21) (σ 22) (σ 23) (σ 24) (σ 25) (σ 26) (σ 27)
theorem k9 {P : Nat → Prop} (h0 : P 0) (h1 : P 1) (h2 : P 2) (h3 : P 3) (h4 : P 4) (h5 : P 5) (h6 : P 6) (h7 : P 7) (h8 : P 8) : ∀ k, k < 9 → P k := by
  intro k hk
  rcases (show k = 0 ∨ k = 1 ∨ k = 2 ∨ k = 3 ∨ k = 4 ∨ k = 5 ∨ k = 6 ∨ k = 7 ∨ k = 8 by omega) with rfl | rfl | rfl | rfl | rfl | rfl | rfl | rfl | rfl <;> assumption
theorem k8 {P : Nat → Prop} (h0 : P 0) (h1 : P 1) (h2 : P 2) (h3 : P 3) (h4 : P 4) (h5 : P 5) (h6 : P 6) (h7 : P 7) : ∀ k, k < 8 → P k := by
  intro k hk
  rcases (show k = 0 ∨ k = 1 ∨ k = 2 ∨ k = 3 ∨ k = 4 ∨ k = 5 ∨ k = 6 ∨ k = 7 by omega) with rfl | rfl | rfl | rfl | rfl | rfl | rfl | rfl <;> assumption
theorem eq_P {σ τ : Store} (h : ∀ k, k < 9 → σ k = τ k) : Eqv ΛP σ τ := by
  intro k sh hk j hj
  have : k < 9 := (List.getElem?_eq_some_iff.mp hk).1
  rw [h k this]
theorem pv_eq {σ τ : Store} (h : ∀ k, k < 9 → σ k = τ k) (hx : ∀ k, 9 ≤ k → σ k = τ k) : σ = τ := by
  funext k
  by_cases hk : k < 9
  · exact h k hk
  · exact hx k (by omega)
theorem over_id (σ : Store) (is : List Nat) : over σ is (sub is σ) = σ := by
  funext k
  unfold over
  split
  · rename_i j hj
    obtain ⟨-, h2⟩ := pos_some is 0 k j hj
    rw [Nat.sub_zero] at h2
    unfold sub io
    rw [List.getD_eq_getElem?_getD, h2]; rfl
  · rfl
theorem emNV {μ : Mt} {d : Nat} {as as' : List Value} {σ : Store} {P : Store → Prop} (h : Ct ΛP μ d as (nV σ) (PV P)) (ha : as.map (re ixN) = as') : Ct ΛC μ d as' σ (PV (fun σ' => ∃ ρ, P ρ ∧ σ' = over σ ixN ρ)) :=
  Ct.embV ixN (Ct.eqv (eq_P (k9 rfl rfl rfl rfl rfl rfl rfl rfl rfl)) h) (by decide +kernel) ha
theorem emNI {μ : Mt} {d : Nat} {as as' : List Value} {σ : Store} {P : Int32 → Store → Prop} (h : Ct ΛP μ d as (nV σ) (PI P)) (ha : as.map (re ixN) = as') : Ct ΛC μ d as' σ (PI (fun r σ' => ∃ ρ, P r ρ ∧ σ' = over σ ixN ρ)) :=
  Ct.embI ixN (Ct.eqv (eq_P (k9 rfl rfl rfl rfl rfl rfl rfl rfl rfl)) h) (by decide +kernel) ha
/-- of a method that writes nothing -/
theorem emNS {μ : Mt} {d : Nat} {as as' : List Value} {σ : Store} {Q : Int32 → Prop} (h : Ct ΛP μ d as (nV σ) (PI (fun r σ' => Q r ∧ σ' = nV σ))) (ha : as.map (re ixN) = as') : Ct ΛC μ d as' σ (PI (fun r σ' => Q r ∧ σ' = σ)) := by
  have h0 : Ct ΛP μ d as (sub ixN σ) (PI (fun r σ' => Q r ∧ σ' = sub ixN σ)) := by
    refine Ct.eqvP (Ct.eqv (eq_P (k9 rfl rfl rfl rfl rfl rfl rfl rfl rfl)) h) ?_
    rintro v τ ⟨r, h1, h2, rfl⟩
    exact ⟨sub ixN σ, eq_P (k9 rfl rfl rfl rfl rfl rfl rfl rfl rfl), r, h1, h2, rfl⟩
  refine (Ct.embI ixN h0 (by decide +kernel) ha).post ?_
  rintro v σ' ⟨r, h1, ρ, ⟨h2, rfl⟩, h3⟩
  exact ⟨r, h1, h2, h3.trans (over_id σ ixN)⟩
theorem emNF {μ : Mt} {d : Nat} {as as' : List Value} {σ : Store} {v : Int32} (h : Ct ΛP μ d as (nV σ) (PF v (nV σ))) (ha : as.map (re ixN) = as') : Ct ΛC μ d as' σ (PF v σ) := emNS (Q := fun r => r = v) h ha
theorem emNB {μ : Mt} {d : Nat} {as as' : List Value} {σ : Store} {q : Prop} (h : Ct ΛP μ d as (nV σ) (PB (nV σ) q)) (ha : as.map (re ixN) = as') : Ct ΛC μ d as' σ (PB σ q) := by
  have h1 := emNS (Q := fun r => (r = nI 1 ∧ q) ∨ (r = nI 0 ∧ ¬ q)) (σ := σ) (as := as) (as' := as') (h.post (by rintro v s ⟨r, a, b, c⟩; exact ⟨r, a, c, b⟩)) ha
  exact h1.post (by rintro v s ⟨r, a, b, c⟩; exact ⟨r, a, c, b⟩)
theorem emTV {μ : Mt} {d : Nat} {as as' : List Value} {σ : Store} {P : Store → Prop} (h : Ct ΛP μ d as (tV σ) (PV P)) (ha : as.map (re ixT) = as') : Ct ΛC μ d as' σ (PV (fun σ' => ∃ ρ, P ρ ∧ σ' = over σ ixT ρ)) :=
  Ct.embV ixT (Ct.eqv (eq_P (k9 rfl rfl rfl rfl rfl rfl rfl rfl rfl)) h) (by decide +kernel) ha
theorem emTI {μ : Mt} {d : Nat} {as as' : List Value} {σ : Store} {P : Int32 → Store → Prop} (h : Ct ΛP μ d as (tV σ) (PI P)) (ha : as.map (re ixT) = as') : Ct ΛC μ d as' σ (PI (fun r σ' => ∃ ρ, P r ρ ∧ σ' = over σ ixT ρ)) :=
  Ct.embI ixT (Ct.eqv (eq_P (k9 rfl rfl rfl rfl rfl rfl rfl rfl rfl)) h) (by decide +kernel) ha
/-- of a method that writes nothing -/
theorem emTS {μ : Mt} {d : Nat} {as as' : List Value} {σ : Store} {Q : Int32 → Prop} (h : Ct ΛP μ d as (tV σ) (PI (fun r σ' => Q r ∧ σ' = tV σ))) (ha : as.map (re ixT) = as') : Ct ΛC μ d as' σ (PI (fun r σ' => Q r ∧ σ' = σ)) := by
  have h0 : Ct ΛP μ d as (sub ixT σ) (PI (fun r σ' => Q r ∧ σ' = sub ixT σ)) := by
    refine Ct.eqvP (Ct.eqv (eq_P (k9 rfl rfl rfl rfl rfl rfl rfl rfl rfl)) h) ?_
    rintro v τ ⟨r, h1, h2, rfl⟩
    exact ⟨sub ixT σ, eq_P (k9 rfl rfl rfl rfl rfl rfl rfl rfl rfl), r, h1, h2, rfl⟩
  refine (Ct.embI ixT h0 (by decide +kernel) ha).post ?_
  rintro v σ' ⟨r, h1, ρ, ⟨h2, rfl⟩, h3⟩
  exact ⟨r, h1, h2, h3.trans (over_id σ ixT)⟩
theorem emTF {μ : Mt} {d : Nat} {as as' : List Value} {σ : Store} {v : Int32} (h : Ct ΛP μ d as (tV σ) (PF v (tV σ))) (ha : as.map (re ixT) = as') : Ct ΛC μ d as' σ (PF v σ) := emTS (Q := fun r => r = v) h ha
theorem emTB {μ : Mt} {d : Nat} {as as' : List Value} {σ : Store} {q : Prop} (h : Ct ΛP μ d as (tV σ) (PB (tV σ) q)) (ha : as.map (re ixT) = as') : Ct ΛC μ d as' σ (PB σ q) := by
  have h1 := emTS (Q := fun r => (r = nI 1 ∧ q) ∨ (r = nI 0 ∧ ¬ q)) (σ := σ) (as := as) (as' := as') (h.post (by rintro v s ⟨r, a, b, c⟩; exact ⟨r, a, c, b⟩)) ha
  exact h1.post (by rintro v s ⟨r, a, b, c⟩; exact ⟨r, a, c, b⟩)
-- the relation
def RK (a : Row) (κ τ : Store) : Prop := (a 2 = nI 0 ∧ τ 0 4 = nI 0) ∨ (a 2 = nI 1 ∧ τ 0 4 = nI 1 ∧ RP κ (τ 2))
def RT (a y : Row) (τ : Store) : Prop := ∃ t, a 1 = nI t ∧ TP τ t ∧ ∀ i, i < t → y i = (τ 5 i).toInt8.toInt32
def RR (a y : Row) (τ : Store) : Prop := ∃ r, r ≤ 10 ∧ a 1 = nI r ∧ τ 0 14 = nI r ∧ ∀ j, j < 30 → y j = τ 7 j
def RS (u v w : Row) (τ : Store) : Prop := ShI τ ∧ ∀ t, t < 4 → u t = τ 8 t ∧ v t = τ 9 t ∧ ∀ i, i < tn (τ 9 t) → w (40 * t + i) = τ 10 (40 * t + i)
def RHs (h : Nat) (u v w : Row) (τ : Store) : Prop := (τ 11 h = nI 0 ∧ u h = -1 ∧ v h = -1) ∨ (τ 11 h = nI 1 ∧ v h = -1 ∧ ∃ j, j < 8 ∧ τ 12 h = nI j ∧ u h = nI j) ∨ (τ 11 h = nI 2 ∧ u h = -1 ∧ ∃ s n, s ≤ 3 ∧ n ≤ 40 ∧ τ 12 h = nI s ∧ τ 13 h = nI n ∧ v h = nI s ∧ w h = nI n)
def RH (u v w : Row) (τ : Store) : Prop := ∀ h, h < 4 → RHs h u v w τ
def RA (a y : Row) (τ : Store) : Prop := ∃ r, r ≤ 30 ∧ a 1 = nI r ∧ τ 0 22 = nI r ∧ ∀ i, i < r → y i = τ 14 i
/-- the type's cells σ, the reference's τ and its row f -/
def RX (σ τ : Store) (f : Row) : Prop := RP (nV σ) f ∧ RK (σ 0) (kV2 σ) τ ∧ RT (σ 29) (σ 30) τ ∧ RR (σ 31) (σ 32) τ ∧ RS (σ 34) (σ 35) (σ 36) τ ∧ RH (σ 38) (σ 39) (σ 40) τ ∧ RA (σ 41) (σ 42) τ
theorem RX.n {σ τ : Store} {f : Row} (h : RX σ τ f) : RP (nV σ) f := h.1
theorem RX.i {σ τ : Store} {f : Row} (h : RX σ τ f) : Inv f := h.1.i
theorem RX.n8 {σ τ : Store} {f : Row} (h : RX σ τ f) : nn f ≤ 8 := h.1.n8
/-- a park that was run by itself, in the trial's cells or in those of now -/
theorem RX.T {σ τ : Store} {f : Row} (h : RX σ τ f) (ρ : Store) : RX (over σ ixT ρ) τ f := h
theorem RX.N {σ τ : Store} {f g : Row} (h : RX σ τ f) {ρ : Store} (hρ : RP ρ g) : RX (over σ ixN ρ) τ g := ⟨hρ.cg (k8 rfl rfl rfl rfl rfl rfl rfl rfl), h.2⟩
theorem tV_T {σ ρ : Store} {g : Row} (h : RP ρ g) : RP (tV (over σ ixT ρ)) g := h.cg (k8 rfl rfl rfl rfl rfl rfl rfl rfl)
theorem tB_T {σ ρ : Store} {b : Row} {n : Nat} (h : RB ρ b n) : RB (tV (over σ ixT ρ)) b n := h.cg rfl
theorem nV_up {σ : Store} {g : Row} {k j : Nat} {v : Int32} (h : RP (s_up (nV σ) k j v) g) : ∀ σ', (∀ c, c < 8 → nV σ' c = s_up (nV σ) k j v c) → RP (nV σ') g := fun _ e => h.cg e
theorem RX.wl {σ τ : Store} {f : Row} (h : RX σ τ f) {i : Nat} {v : Int32} (hi : i < 4) (hv : Rng v (lm i)) : RX (s_up σ 2 i v) τ (upd f (3 + i) v) := ⟨RP.cg (h.n.ul hi hv) (k8 rfl rfl rfl rfl rfl rfl rfl rfl), h.2⟩
theorem RX.wc {σ τ : Store} {f : Row} (h : RX σ τ f) {i : Nat} {v : Int32} (hi : i < 12) (hv : Rng v 9) : RX (s_up σ 3 i v) τ (upd f (7 + i) v) := ⟨RP.cg (h.n.uc hi hv) (k8 rfl rfl rfl rfl rfl rfl rfl rfl), h.2⟩
theorem RX.w0 {σ τ : Store} {f : Row} (h : RX σ τ f) {o : Nat} {v : Int32} (hv : Rng v (mx 0)) : RX (s_up σ 4 o v) τ (upd f (19 + 6 * o + 0) v) := ⟨RP.cg (h.n.u0 hv) (k8 rfl rfl rfl rfl rfl rfl rfl rfl), h.2⟩
theorem RX.t0 {σ τ : Store} {f g : Row} (h : RX σ τ f) (hT : RP (tV σ) g) {o : Nat} {v : Int32} (hv : Rng v (mx 0)) : RX (s_up σ 13 o v) τ f ∧ RP (tV (s_up σ 13 o v)) (upd g (19 + 6 * o + 0) v) := ⟨h, RP.cg (hT.u0 hv) (k8 rfl rfl rfl rfl rfl rfl rfl rfl)⟩
theorem RX.w1 {σ τ : Store} {f : Row} (h : RX σ τ f) {o : Nat} {v : Int32} (hv : Rng v (mx 1)) : RX (s_up σ 5 o v) τ (upd f (19 + 6 * o + 1) v) := ⟨RP.cg (h.n.u1 hv) (k8 rfl rfl rfl rfl rfl rfl rfl rfl), h.2⟩
theorem RX.t1 {σ τ : Store} {f g : Row} (h : RX σ τ f) (hT : RP (tV σ) g) {o : Nat} {v : Int32} (hv : Rng v (mx 1)) : RX (s_up σ 14 o v) τ f ∧ RP (tV (s_up σ 14 o v)) (upd g (19 + 6 * o + 1) v) := ⟨h, RP.cg (hT.u1 hv) (k8 rfl rfl rfl rfl rfl rfl rfl rfl)⟩
theorem RX.w2 {σ τ : Store} {f : Row} (h : RX σ τ f) {o : Nat} {v : Int32} (hv : Rng v (mx 2)) : RX (s_up σ 6 o v) τ (upd f (19 + 6 * o + 2) v) := ⟨RP.cg (h.n.u2 hv) (k8 rfl rfl rfl rfl rfl rfl rfl rfl), h.2⟩
theorem RX.t2 {σ τ : Store} {f g : Row} (h : RX σ τ f) (hT : RP (tV σ) g) {o : Nat} {v : Int32} (hv : Rng v (mx 2)) : RX (s_up σ 15 o v) τ f ∧ RP (tV (s_up σ 15 o v)) (upd g (19 + 6 * o + 2) v) := ⟨h, RP.cg (hT.u2 hv) (k8 rfl rfl rfl rfl rfl rfl rfl rfl)⟩
theorem RX.w3 {σ τ : Store} {f : Row} (h : RX σ τ f) {o : Nat} {v : Int32} (hv : Rng v (mx 3)) : RX (s_up σ 7 o v) τ (upd f (19 + 6 * o + 3) v) := ⟨RP.cg (h.n.u3 hv) (k8 rfl rfl rfl rfl rfl rfl rfl rfl), h.2⟩
theorem RX.t3 {σ τ : Store} {f g : Row} (h : RX σ τ f) (hT : RP (tV σ) g) {o : Nat} {v : Int32} (hv : Rng v (mx 3)) : RX (s_up σ 16 o v) τ f ∧ RP (tV (s_up σ 16 o v)) (upd g (19 + 6 * o + 3) v) := ⟨h, RP.cg (hT.u3 hv) (k8 rfl rfl rfl rfl rfl rfl rfl rfl)⟩
theorem RX.w5 {σ τ : Store} {f : Row} (h : RX σ τ f) {o : Nat} {v : Int32} (hv : Rng v (mx 5)) : RX (s_up σ 8 o v) τ (upd f (19 + 6 * o + 5) v) := ⟨RP.cg (h.n.u5 hv) (k8 rfl rfl rfl rfl rfl rfl rfl rfl), h.2⟩
theorem RX.t5 {σ τ : Store} {f g : Row} (h : RX σ τ f) (hT : RP (tV σ) g) {o : Nat} {v : Int32} (hv : Rng v (mx 5)) : RX (s_up σ 17 o v) τ f ∧ RP (tV (s_up σ 17 o v)) (upd g (19 + 6 * o + 5) v) := ⟨h, RP.cg (hT.u5 hv) (k8 rfl rfl rfl rfl rfl rfl rfl rfl)⟩
theorem RX.wz {σ τ : Store} {f : Row} (h : RX σ τ f) (v : Int32) : RX (s_up σ 1 11 v) τ (upd f 2 v) := ⟨RP.cg (h.n.uz v) (k8 rfl rfl rfl rfl rfl rfl rfl rfl), h.2⟩
theorem RX.tz {σ τ : Store} {f g : Row} (h : RX σ τ f) (hT : RP (tV σ) g) (v : Int32) : RX (s_up σ 10 11 v) τ f ∧ RP (tV (s_up σ 10 11 v)) (upd g 2 v) := ⟨h, RP.cg (hT.uz v) (k8 rfl rfl rfl rfl rfl rfl rfl rfl)⟩
theorem c_becTN {σ τ : Store} {f : Row} (h : RX σ τ f) : Ct ΛC mt_Pk_become 1 [.ref 10, .ref 1] σ (PV (fun σ' => RX σ' τ f ∧ RP (tV σ') f)) := by
  have h0 := Ct.embV (Λ2 := ΛC) (σ := σ) (ixT ++ ixN) (c_become (sub (ixT ++ ixN) σ) (f := f) (RP.cg h.n (k8 rfl rfl rfl rfl rfl rfl rfl rfl))) (by decide +kernel) rfl
  refine h0.post ?_
  rintro v σ' ⟨h1, ρ, ⟨h2, h3⟩, rfl⟩
  refine ⟨h1, ⟨RP.cg h.n (k8 (h3 9 (by decide)) (h3 10 (by decide)) (h3 11 (by decide)) (h3 12 (by decide)) (h3 13 (by decide)) (h3 14 (by decide)) (h3 15 (by decide)) (h3 16 (by decide))), h.2⟩, RP.cg h2 (k8 rfl rfl rfl rfl rfl rfl rfl rfl)⟩
theorem c_becNT {σ τ : Store} {f : Row} {g : Row} (h : RX σ τ f) (hT : RP (tV σ) g) : Ct ΛC mt_Pk_become 1 [.ref 1, .ref 10] σ (PV (fun σ' => RX σ' τ g)) := by
  have h0 := Ct.embV (Λ2 := ΛC) (σ := σ) (ixN ++ ixT) (c_become (sub (ixN ++ ixT) σ) (f := g) (RP.cg hT (k8 rfl rfl rfl rfl rfl rfl rfl rfl))) (by decide +kernel) rfl
  refine h0.post ?_
  rintro v σ' ⟨h1, ρ, ⟨h2, h3⟩, rfl⟩
  refine ⟨h1, RP.cg h2 (k8 rfl rfl rfl rfl rfl rfl rfl rfl), h.2⟩
theorem c_becKN {σ τ : Store} {f : Row} (h : RX σ τ f) : Ct ΛC mt_Pk_become 1 [.ref 19, .ref 1] σ (PV (fun σ' => RX (s_up σ' 0 2 (nI 1)) (s_up (s_row τ 2 f) 0 4 (nI 1)) f)) := by
  have h0 := Ct.embV (Λ2 := ΛC) (σ := σ) (ixK ++ ixN) (c_become (sub (ixK ++ ixN) σ) (f := f) (RP.cg h.n (k8 rfl rfl rfl rfl rfl rfl rfl rfl))) (by decide +kernel) rfl
  refine h0.post ?_
  rintro v σ' ⟨h1, ρ, ⟨h2, h3⟩, rfl⟩
  refine ⟨h1, RP.cg h.n (k8 (h3 9 (by decide)) (h3 10 (by decide)) (h3 11 (by decide)) (h3 12 (by decide)) (h3 13 (by decide)) (h3 14 (by decide)) (h3 15 (by decide)) (h3 16 (by decide))), Or.inr ⟨rfl, rfl, RP.cg h2 (k8 rfl rfl rfl rfl rfl rfl rfl rfl)⟩, h.2.2⟩
theorem c_becNK {σ τ : Store} {f : Row} (h : RX σ τ f) (hK : RP (kV2 σ) (τ 2)) (ha : σ 0 2 = nI 1) (h4 : τ 0 4 = nI 1) : Ct ΛC mt_Pk_become 1 [.ref 1, .ref 19] σ (PV (fun σ' => RX σ' τ (τ 2))) := by
  have h0 := Ct.embV (Λ2 := ΛC) (σ := σ) (ixN ++ ixK) (c_become (sub (ixN ++ ixK) σ) (f := (τ 2)) (RP.cg hK (k8 rfl rfl rfl rfl rfl rfl rfl rfl))) (by decide +kernel) rfl
  refine h0.post ?_
  rintro v σ' ⟨h1, ρ, ⟨h2, h3⟩, rfl⟩
  refine ⟨h1, RP.cg h2 (k8 rfl rfl rfl rfl rfl rfl rfl rfl), Or.inr ⟨ha, h4, RP.cg hK (k8 (h3 9 (by decide)) (h3 10 (by decide)) (h3 11 (by decide)) (h3 12 (by decide)) (h3 13 (by decide)) (h3 14 (by decide)) (h3 15 (by decide)) (h3 16 (by decide)))⟩, h.2.2⟩
