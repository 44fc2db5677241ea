/-! THE REFERENCE, its small methods -/
abbrev ΛM : Lay := [.inr (8, [some 1, some 2, some 3, some 4, none, some 5, none, none, none, none, none, none, some 6, some 7, none, some 8, some 9, some 10, some 11, some 12, some 13, some 14, none, none, none, none, none]), .inl (false, 67), .inl (false, 67), .inl (false, 67), .inl (false, 67), .inl (false, 200), .inl (false, 8), .inl (false, 30), .inl (false, 4), .inl (false, 4), .inl (false, 160), .inl (false, 4), .inl (false, 4), .inl (false, 4), .inl (false, 30)]
/-- stores that agree in all places of the layout are the same world -/
def szS : Shape → Nat
  | .inl q => q.2
  | .inr q => q.2.length
def Eqv (Λ : Lay) (σ τ : Store) : Prop := ∀ (k : Nat) (sh : Shape), Λ[k]? = some sh → ∀ j, j < szS sh → σ k j = τ k j
theorem Eqv.rf {Λ : Lay} {σ : Store} : Eqv Λ σ σ := fun _ _ _ _ _ => rfl
theorem Eqv.sy {Λ : Lay} {σ τ : Store} (h : Eqv Λ σ τ) : Eqv Λ τ σ := fun k sh hk j hj => (h k sh hk j hj).symm
theorem Eqv.tr {Λ : Lay} {σ τ ρ : Store} (h : Eqv Λ σ τ) (g : Eqv Λ τ ρ) : Eqv Λ σ ρ := fun k sh hk j hj => (h k sh hk j hj).trans (g k sh hk j hj)
theorem fv_eqv (ad : Nat → Nat) {v w : Nat → Int32} : ∀ (fs : List (Option Nat)) (j : Nat), (∀ i, i < fs.length → v (j + i) = w (j + i)) → fv ad v j fs = fv ad w j fs := by
  intro fs
  induction fs with
  | nil => intro j _; rfl
  | cons f r ih =>
    intro j h
    have h1 := ih (j + 1) (fun i hi => by have := h (i + 1) (by simp; omega); rwa [show j + (i + 1) = j + 1 + i by omega] at this)
    have h0 := h 0 (by simp)
    rw [Nat.add_zero] at h0
    cases f <;> simp [fv, h1, h0]
theorem va_at_eqv {D : va_G} {cI cB : ClassId} {ad : Nat → Nat} {a : Nat} {v w : Nat → Int32} {sh : Shape} {H : Heap} (h : ∀ j, j < szS sh → v j = w j) (hP : va_at D classes (a, ce cI cB ad v sh) H) : va_at D classes (a, ce cI cB ad w sh) H := by
  rcases sh with ⟨b, n⟩ | ⟨ci, fs⟩
  · have e : vp_cell (if b then cB else cI) (n, .inl v) = vp_cell (if b then cB else cI) (n, .inl w) := by
      rw [vp_cell_i, vp_cell_i]
      unfold arrV
      congr 2
      funext j
      show Value.int (v j.val) = Value.int (w j.val)
      rw [h j.val j.isLt]
    show H[a]? = some (vp_cell _ _)
    rw [← e]
    exact hP
  · have e : fv ad v 0 fs = fv ad w 0 fs := fv_eqv ad fs 0 (fun i hi => by simpa using h i hi)
    show va_at D classes (a, .inr (ci, fv ad w 0 fs)) H
    rw [← e]
    exact hP
theorem va_P_eqv {D : va_G} {cI cB : ClassId} {ad : Nat → Nat} {σ τ : Store} {Λ : Lay} {H : Heap} (h : Eqv Λ σ τ) (hP : va_P D classes (wr cI cB ad σ 0 Λ) H) : va_P D classes (wr cI cB ad τ 0 Λ) H := by
  intro k q hq
  rw [wr_get] at hq
  cases hs : Λ[k]? with
  | none => rw [hs] at hq; cases hq
  | some sh =>
    rw [hs] at hq
    have hq' := Option.some.inj hq
    rw [← hq']
    simp only [Nat.zero_add]
    exact va_at_eqv (h k sh hs) (hP k _ (wr_at hs))
theorem g_eqv {Γ : MC} {X : CX} {σ τ : Store} {L : List (Option Value)} {st : List Value} {pc : Nat} (h : Eqv Γ.1 σ τ) (k : G Γ X τ L st pc) : G Γ X σ L st pc := by
  obtain ⟨⟨p, l, e, R⟩, ⟨s, m, args, below⟩, ⟨meth, c, Q⟩, ⟨dC, dI, cI, cB⟩, ⟨ad, A, cells, slots⟩⟩ := X
  intro ok H locs ls hP hS hl
  exact k ok H locs ls (va_P_eqv h hP) hS hl
theorem Ct.eqv {Λ : Lay} {μ : Mt} {d : Nat} {as : List Value} {σ τ : Store} {P : Option Value → Store → Prop} (h : Eqv Λ σ τ) (hC : Ct Λ μ d as τ P) : Ct Λ μ d as σ P := by
  intro l dC dI cI cB ad
  refine Met.conseq (hC l dC dI cI cB ad) ?_ (fun _ _ _ _ _ h => h) (fun _ h => h)
  rintro a s ⟨h1, h2, h3⟩
  exact ⟨h1, va_P_eqv h h2, h3⟩
theorem Ct.eqvP {Λ : Lay} {μ : Mt} {d : Nat} {as : List Value} {σ : Store} {P P' : Option Value → Store → Prop} (hC : Ct Λ μ d as σ P) (h : ∀ v τ, P v τ → ∃ τ', Eqv Λ τ τ' ∧ P' v τ') : Ct Λ μ d as σ P' := by
  intro l dC dI cI cB ad
  refine Met.conseq (hC l dC dI cI cB ad) (fun _ _ h => h) ?_ (fun _ h => h)
  rintro a s o t _ ⟨⟨v, τ, h1, h2, h3⟩, h4⟩
  obtain ⟨τ', h5, h6⟩ := h v τ h2
  exact ⟨⟨v, τ', h1, h6, va_P_eqv h5 h3⟩, h4⟩
theorem i64_in (x : Int32) (a b : Nat) (hb : b < 2 ^ 31) (hab : a ≤ b) : (lN a ≤ x.toInt64 ∧ x.toInt64 ≤ lN b) ↔ ∃ j, a ≤ j ∧ j ≤ b ∧ x = nI j := by
  have hx : x.toInt64.toInt = x.toInt := by simp
  rw [Int64.le_iff_toInt_le, Int64.le_iff_toInt_le, hx, lN_toInt (by omega), lN_toInt hb]
  constructor
  · rintro ⟨h1, h2⟩
    refine ⟨x.toInt.toNat, by omega, by omega, ?_⟩
    apply Int32.toInt_inj.mp
    rw [nI_toInt (by omega)]; omega
  · rintro ⟨j, h1, h2, rfl⟩
    rw [nI_toInt (by omega)]; omega
theorem i32_lt (x : Int32) {b : Nat} (hb : b < 2 ^ 31) : (0 ≤ x ∧ x < nI b) ↔ ∃ j, j < b ∧ x = nI j := by
  rw [Int32.le_iff_toInt_le, Int32.lt_iff_toInt_lt, nI_toInt hb, Int32.toInt_zero]
  constructor
  · rintro ⟨h1, h2⟩
    refine ⟨x.toInt.toNat, by omega, ?_⟩
    apply Int32.toInt_inj.mp
    rw [nI_toInt (by omega)]; omega
  · rintro ⟨j, h1, rfl⟩
    rw [nI_toInt (by omega)]; omega
theorem lg_lt0 {x y : Int64} : lg_cmp x y < 0 ↔ x < y := by
  have t : ∀ a b : Int64, a < b ↔ a.toInt < b.toInt := fun a b => Int64.lt_iff_toInt_lt
  unfold lg_cmp
  split
  · rename_i h
    have h' : y.toInt < x.toInt := (t y x).mp h
    rw [t]
    exact ⟨fun q => absurd q (by decide), fun q => by omega⟩
  · rename_i h
    have h' : ¬ y.toInt < x.toInt := fun q => h ((t y x).mpr q)
    split
    · rename_i h2; subst h2; rw [t]; exact ⟨fun q => absurd q (by decide), fun q => by omega⟩
    · rename_i h2
      have h3 : x.toInt ≠ y.toInt := fun q => h2 (Int64.toInt_inj.mp q)
      rw [t]; exact ⟨fun _ => by omega, fun _ => by decide⟩
theorem lg_gt0 {x y : Int64} : 0 < lg_cmp x y ↔ y < x := by
  unfold lg_cmp
  split
  · rename_i h; exact ⟨fun _ => h, fun _ => by decide⟩
  · rename_i h
    split
    · exact ⟨fun q => absurd q (by decide), fun q => absurd q h⟩
    · exact ⟨fun q => absurd q (by decide), fun q => absurd q h⟩
theorem lg_ne0 {x y : Int64} : lg_cmp x y = 0 ↔ x = y := by
  unfold lg_cmp
  split
  · rename_i h; exact ⟨fun q => absurd q (by decide), fun q => by subst q; exact absurd h (by rw [gt_iff_lt, Int64.lt_iff_toInt_lt]; omega)⟩
  · split
    · rename_i h2; exact ⟨fun _ => h2, fun _ => rfl⟩
    · rename_i h2; exact ⟨fun q => absurd q (by decide), fun q => absurd q h2⟩
set_option maxRecDepth 20000 in
theorem m_isIn (Λ : Lay) (σ : Store) (x y z : Int64) : Ct Λ mt_Md_isIn 0 [.long x, .long y, .long z] σ (PB σ (y ≤ x ∧ x ≤ z)) := by
  refine Ct.of (by decide) (Nat.le_of_ble_eq_true rfl) (fun X hR => ?_)
  show G (Λ, mt_Md_isIn, 0) X σ [some (.long x), none, some (.long y), none, some (.long z), none] [] 0
  refine g_lload_n (by decide +kernel : decode prog_10_method_3_code 0 = .ok (.lload_n 0, 1)) rfl ?_
  refine g_lload_n (by decide +kernel : decode prog_10_method_3_code 1 = .ok (.lload_n 2, 1)) rfl ?_
  refine g_lcmp (by decide +kernel : decode prog_10_method_3_code 2 = .ok (.lcmp, 1)) ?_
  refine g_if_lt (tgt := 17) (by decide +kernel : decode prog_10_method_3_code 3 = .ok (.ifCond .lt 14, 3)) (by decide) (fun h3 => ?_) (fun h3 => ?_)
  · refine g_iconst (v := nI 0) (by decide +kernel : decode prog_10_method_3_code 17 = .ok (.iconst 0, 1)) (by decide) ?_
    exact g_zret hR (by decide +kernel : decode prog_10_method_3_code 18 = .ok (.ireturn, 1)) rfl (by decide) ⟨_, rfl, ⟨rfl, Or.inr ⟨rfl, by first | exact fun q => absurd q.1 (Int64.not_le.mpr (lg_lt0.mp h3)) | exact fun q => absurd q.2 (Int64.not_le.mpr (lg_gt0.mp h10))⟩⟩⟩
  · refine g_lload_n (by decide +kernel : decode prog_10_method_3_code 6 = .ok (.lload_n 0, 1)) rfl ?_
    refine g_lload (by decide +kernel : decode prog_10_method_3_code 7 = .ok (.lload 4, 2)) rfl ?_
    refine g_lcmp (by decide +kernel : decode prog_10_method_3_code 9 = .ok (.lcmp, 1)) ?_
    refine g_if_gt (tgt := 17) (by decide +kernel : decode prog_10_method_3_code 10 = .ok (.ifCond .gt 7, 3)) (by decide) (fun h10 => ?_) (fun h10 => ?_)
    · refine g_iconst (v := nI 0) (by decide +kernel : decode prog_10_method_3_code 17 = .ok (.iconst 0, 1)) (by decide) ?_
      exact g_zret hR (by decide +kernel : decode prog_10_method_3_code 18 = .ok (.ireturn, 1)) rfl (by decide) ⟨_, rfl, ⟨rfl, Or.inr ⟨rfl, by first | exact fun q => absurd q.1 (Int64.not_le.mpr (lg_lt0.mp h3)) | exact fun q => absurd q.2 (Int64.not_le.mpr (lg_gt0.mp h10))⟩⟩⟩
    · refine g_iconst (v := nI 1) (by decide +kernel : decode prog_10_method_3_code 13 = .ok (.iconst 1, 1)) (by decide) ?_
      refine g_goto (tgt := 18) (by decide +kernel : decode prog_10_method_3_code 14 = .ok (.goto 4, 3)) (by decide) ?_
      exact g_zret hR (by decide +kernel : decode prog_10_method_3_code 18 = .ok (.ireturn, 1)) rfl (by decide) ⟨_, rfl, ⟨rfl, Or.inl ⟨rfl, ⟨Int64.not_lt.mp (fun q => h3 (lg_lt0.mpr q)), Int64.not_lt.mp (fun q => h10 (lg_gt0.mpr q))⟩⟩⟩⟩
theorem PB.of {Λ : Lay} {μ : Mt} {d : Nat} {as : List Value} {σ τ : Store} {p q : Prop} (h : Ct Λ μ d as σ (PB τ p)) (e : p ↔ q) : Ct Λ μ d as σ (PB τ q) := by
  refine h.post ?_
  rintro v σ' ⟨r, h1, h2, h3⟩
  refine ⟨r, h1, h2, ?_⟩
  rcases h3 with ⟨a, b⟩ | ⟨a, b⟩
  · exact Or.inl ⟨a, e.mp b⟩
  · exact Or.inr ⟨a, fun z => b (e.mpr z)⟩
/-- an int between a and b -/
theorem m_isInN (Λ : Lay) (σ : Store) (x : Int32) (a b : Nat) (hb : b < 2 ^ 31 := by decide) (hab : a ≤ b := by decide) : Ct Λ mt_Md_isIn 0 [.long x.toInt64, .long (lN a), .long (lN b)] σ (PB σ (∃ j, a ≤ j ∧ j ≤ b ∧ x = nI j)) := PB.of (m_isIn Λ σ _ _ _) (i64_in x a b hb hab)
theorem m_isInK (Λ : Lay) (σ : Store) (k a b : Nat) (hk : k < 2 ^ 31) (ha : a < 2 ^ 31) (hb : b < 2 ^ 31) : Ct Λ mt_Md_isIn 0 [.long (lN k), .long (lN a), .long (lN b)] σ (PB σ (a ≤ k ∧ k ≤ b)) := PB.of (m_isIn Λ σ _ _ _) (by rw [lN_le ha hk, lN_le hk hb])
set_option maxRecDepth 20000 in
theorem m_isPlace (Λ : Lay) (σ : Store) (x : Int32) : Ct Λ mt_Md_isPlace 0 [.int x] σ (PB σ (∃ j, j < 12 ∧ x = nI j)) := by
  refine Ct.of (by decide) (Nat.le_of_ble_eq_true rfl) (fun X hR => ?_)
  show G (Λ, mt_Md_isPlace, 0) X σ [some (.int x)] [] 0
  refine g_iload_n (by decide +kernel : decode prog_10_method_4_code 0 = .ok (.iload_n 0, 1)) rfl ?_
  refine g_if_lt (tgt := 14) (by decide +kernel : decode prog_10_method_4_code 1 = .ok (.ifCond .lt 13, 3)) (by decide) (fun h1 => ?_) (fun h1 => ?_)
  · refine g_iconst (v := nI 0) (by decide +kernel : decode prog_10_method_4_code 14 = .ok (.iconst 0, 1)) (by decide) ?_
    exact g_zret hR (by decide +kernel : decode prog_10_method_4_code 15 = .ok (.ireturn, 1)) rfl (by decide) ⟨_, rfl, ⟨rfl, Or.inr ⟨rfl, by first | exact fun q => absurd ((i32_lt x (by decide)).mpr q).1 (Int32.not_le.mpr h1) | exact fun q => absurd ((i32_lt x (by decide)).mpr q).2 (Int32.not_lt.mpr h7)⟩⟩⟩
  · refine g_iload_n (by decide +kernel : decode prog_10_method_4_code 4 = .ok (.iload_n 0, 1)) rfl ?_
    refine g_bipush (v := nI 12) (by decide +kernel : decode prog_10_method_4_code 5 = .ok (.bipush 12, 2)) (by decide) ?_
    refine g_icmp_ge (tgt := 14) (by decide +kernel : decode prog_10_method_4_code 7 = .ok (.if_icmp .ge 7, 3)) (by decide) (fun h7 => ?_) (fun h7 => ?_)
    · refine g_iconst (v := nI 0) (by decide +kernel : decode prog_10_method_4_code 14 = .ok (.iconst 0, 1)) (by decide) ?_
      exact g_zret hR (by decide +kernel : decode prog_10_method_4_code 15 = .ok (.ireturn, 1)) rfl (by decide) ⟨_, rfl, ⟨rfl, Or.inr ⟨rfl, by first | exact fun q => absurd ((i32_lt x (by decide)).mpr q).1 (Int32.not_le.mpr h1) | exact fun q => absurd ((i32_lt x (by decide)).mpr q).2 (Int32.not_lt.mpr h7)⟩⟩⟩
    · refine g_iconst (v := nI 1) (by decide +kernel : decode prog_10_method_4_code 10 = .ok (.iconst 1, 1)) (by decide) ?_
      refine g_goto (tgt := 15) (by decide +kernel : decode prog_10_method_4_code 11 = .ok (.goto 4, 3)) (by decide) ?_
      exact g_zret hR (by decide +kernel : decode prog_10_method_4_code 15 = .ok (.ireturn, 1)) rfl (by decide) ⟨_, rfl, ⟨rfl, Or.inl ⟨rfl, (i32_lt x (by decide)).mp ⟨Int32.not_lt.mp h1, Int32.not_le.mp h7⟩⟩⟩⟩
set_option maxRecDepth 20000 in
theorem m_isOne (σ : Store) (x : Int32) {n : Nat} (hn : σ 1 0 = nI n) (hb : n < 2 ^ 31) : Ct ΛM mt_Md_isOne 0 [.ref 0, .int x] σ (PB σ (∃ j, j < n ∧ x = nI j)) := by
  refine Ct.of (by decide) (Nat.le_of_ble_eq_true rfl) (fun X hR => ?_)
  show G (ΛM, mt_Md_isOne, 0) X σ [some (.ref 0), some (.int x)] [] 0
  refine g_iload_n (by decide +kernel : decode prog_10_method_5_code 0 = .ok (.iload_n 1, 1)) rfl ?_
  refine g_if_lt (tgt := 18) (by decide +kernel : decode prog_10_method_5_code 1 = .ok (.ifCond .lt 17, 3)) (by decide) (fun h1 => ?_) (fun h1 => ?_)
  · refine g_iconst (v := nI 0) (by decide +kernel : decode prog_10_method_5_code 18 = .ok (.iconst 0, 1)) (by decide) ?_
    exact g_zret hR (by decide +kernel : decode prog_10_method_5_code 19 = .ok (.ireturn, 1)) rfl (by decide) ⟨_, rfl, ⟨rfl, Or.inr ⟨rfl, by first | exact fun q => absurd ((i32_lt x hb).mpr q).1 (Int32.not_le.mpr h1) | exact fun q => absurd ((i32_lt x hb).mpr q).2 (Int32.not_lt.mpr h11)⟩⟩⟩
  · refine g_iload_n (by decide +kernel : decode prog_10_method_5_code 4 = .ok (.iload_n 1, 1)) rfl ?_
    refine g_aload_n (by decide +kernel : decode prog_10_method_5_code 5 = .ok (.aload_n 0, 1)) rfl ?_
    refine g_getR (by decide +kernel : decode prog_10_method_5_code 6 = .ok (.getfield 7, 3)) fl_Md_7 rfl rfl ?_
    refine g_iconst (v := nI 0) (by decide +kernel : decode prog_10_method_5_code 9 = .ok (.iconst 0, 1)) (by decide) ?_
    refine g_iaload (a := 0) (by decide +kernel : decode prog_10_method_5_code 10 = .ok (.iaload, 1)) rfl rfl (by decide) (by decide) ?_
    refine g_top (w := nI n) hn ?_
    refine g_icmp_ge (tgt := 18) (by decide +kernel : decode prog_10_method_5_code 11 = .ok (.if_icmp .ge 7, 3)) (by decide) (fun h11 => ?_) (fun h11 => ?_)
    · refine g_iconst (v := nI 0) (by decide +kernel : decode prog_10_method_5_code 18 = .ok (.iconst 0, 1)) (by decide) ?_
      exact g_zret hR (by decide +kernel : decode prog_10_method_5_code 19 = .ok (.ireturn, 1)) rfl (by decide) ⟨_, rfl, ⟨rfl, Or.inr ⟨rfl, by first | exact fun q => absurd ((i32_lt x hb).mpr q).1 (Int32.not_le.mpr h1) | exact fun q => absurd ((i32_lt x hb).mpr q).2 (Int32.not_lt.mpr h11)⟩⟩⟩
    · refine g_iconst (v := nI 1) (by decide +kernel : decode prog_10_method_5_code 14 = .ok (.iconst 1, 1)) (by decide) ?_
      refine g_goto (tgt := 19) (by decide +kernel : decode prog_10_method_5_code 15 = .ok (.goto 4, 3)) (by decide) ?_
      exact g_zret hR (by decide +kernel : decode prog_10_method_5_code 19 = .ok (.ireturn, 1)) rfl (by decide) ⟨_, rfl, ⟨rfl, Or.inl ⟨rfl, (i32_lt x hb).mp ⟨Int32.not_lt.mp h1, Int32.not_le.mp h11⟩⟩⟩⟩
set_option maxRecDepth 20000 in
theorem m_its (σ : Store) (o w : Nat) {v : Int32} (hv : σ 1 (19 + 6 * o + w) = v) (hb : 19 + 6 * o + w < 67) : Ct ΛM mt_Md_its 0 [.ref 0, .int (nI o), .int (nI w)] σ (PF v σ) := by
  refine Ct.of (by decide) (Nat.le_of_ble_eq_true rfl) (fun X hR => ?_)
  show G (ΛM, mt_Md_its, 0) X σ [some (.ref 0), some (.int (nI o)), some (.int (nI w))] [] 0
  refine g_aload_n (by decide +kernel : decode prog_10_method_6_code 0 = .ok (.aload_n 0, 1)) rfl ?_
  refine g_getR (by decide +kernel : decode prog_10_method_6_code 1 = .ok (.getfield 7, 3)) fl_Md_7 rfl rfl ?_
  refine g_bipush (v := nI 19) (by decide +kernel : decode prog_10_method_6_code 4 = .ok (.bipush 19, 2)) (by decide) ?_
  refine g_bipush (v := nI 6) (by decide +kernel : decode prog_10_method_6_code 6 = .ok (.bipush 6, 2)) (by decide) ?_
  refine g_iload_n (by decide +kernel : decode prog_10_method_6_code 8 = .ok (.iload_n 1, 1)) rfl ?_
  refine g_imulN (by decide +kernel : decode prog_10_method_6_code 9 = .ok (.imul, 1)) ?_
  refine g_iaddN (by decide +kernel : decode prog_10_method_6_code 10 = .ok (.iadd, 1)) ?_
  refine g_iload_n (by decide +kernel : decode prog_10_method_6_code 11 = .ok (.iload_n 2, 1)) rfl ?_
  refine g_iaddN (by decide +kernel : decode prog_10_method_6_code 12 = .ok (.iadd, 1)) ?_
  refine g_iaload (a := 19 + 6 * o + w) (by decide +kernel : decode prog_10_method_6_code 13 = .ok (.iaload, 1)) rfl rfl (by omega) (by decide) ?_
  exact g_iret hR (by decide +kernel : decode prog_10_method_6_code 14 = .ok (.ireturn, 1)) rfl ⟨_, rfl, ⟨hv, rfl⟩⟩
set_option maxRecDepth 20000 in
theorem m_becomes (σ : Store) (a : Nat) (x : Int32) {v : Int32} (hv : σ 1 a = v) (hb : a < 67) : Ct ΛM mt_Md_becomes 0 [.ref 0, .int (nI a), .int x] σ (PF v (s_up σ 1 a x)) := by
  refine Ct.of (by decide) (Nat.le_of_ble_eq_true rfl) (fun X hR => ?_)
  show G (ΛM, mt_Md_becomes, 0) X σ [some (.ref 0), some (.int (nI a)), some (.int x), none] [] 0
  refine g_aload_n (by decide +kernel : decode prog_10_method_7_code 0 = .ok (.aload_n 0, 1)) rfl ?_
  refine g_getR (by decide +kernel : decode prog_10_method_7_code 1 = .ok (.getfield 7, 3)) fl_Md_7 rfl rfl ?_
  refine g_iload_n (by decide +kernel : decode prog_10_method_7_code 4 = .ok (.iload_n 1, 1)) rfl ?_
  refine g_iaload (a := a) (by decide +kernel : decode prog_10_method_7_code 5 = .ok (.iaload, 1)) rfl rfl (by omega) (by decide) ?_
  refine g_istore_n (L' := [some (.ref 0), some (.int (nI a)), some (.int x), some (.int (σ 1 a))]) (by decide +kernel : decode prog_10_method_7_code 6 = .ok (.istore_n 3, 1)) (Nat.le_of_ble_eq_true rfl) rfl ?_
  refine g_aload_n (by decide +kernel : decode prog_10_method_7_code 7 = .ok (.aload_n 0, 1)) rfl ?_
  refine g_getR (by decide +kernel : decode prog_10_method_7_code 8 = .ok (.getfield 7, 3)) fl_Md_7 rfl rfl ?_
  refine g_iload_n (by decide +kernel : decode prog_10_method_7_code 11 = .ok (.iload_n 1, 1)) rfl ?_
  refine g_iload_n (by decide +kernel : decode prog_10_method_7_code 12 = .ok (.iload_n 2, 1)) rfl ?_
  refine g_iastore (a := a) (by decide +kernel : decode prog_10_method_7_code 13 = .ok (.iastore, 1)) rfl rfl (by omega) (by decide) ?_
  refine g_iload_n (by decide +kernel : decode prog_10_method_7_code 14 = .ok (.iload_n 3, 1)) rfl ?_
  exact g_iret hR (by decide +kernel : decode prog_10_method_7_code 15 = .ok (.ireturn, 1)) rfl ⟨_, rfl, ⟨hv, rfl⟩⟩
set_option maxRecDepth 20000 in
theorem m_least (Λ : Lay) (σ : Store) (x y : Int32) : Ct Λ mt_Md_least 0 [.int x, .int y] σ (PF (if x < y then x else y) σ) := by
  refine Ct.of (by decide) (Nat.le_of_ble_eq_true rfl) (fun X hR => ?_)
  show G (Λ, mt_Md_least, 0) X σ [some (.int x), some (.int y)] [] 0
  refine g_iload_n (by decide +kernel : decode prog_10_method_9_code 0 = .ok (.iload_n 0, 1)) rfl ?_
  refine g_iload_n (by decide +kernel : decode prog_10_method_9_code 1 = .ok (.iload_n 1, 1)) rfl ?_
  refine g_icmp_ge (tgt := 9) (by decide +kernel : decode prog_10_method_9_code 2 = .ok (.if_icmp .ge 7, 3)) (by decide) (fun h2 => ?_) (fun h2 => ?_)
  · refine g_iload_n (by decide +kernel : decode prog_10_method_9_code 9 = .ok (.iload_n 1, 1)) rfl ?_
    exact g_iret hR (by decide +kernel : decode prog_10_method_9_code 10 = .ok (.ireturn, 1)) rfl ⟨_, rfl, ⟨by simp [Int32.not_lt.mpr h2], rfl⟩⟩
  · refine g_iload_n (by decide +kernel : decode prog_10_method_9_code 5 = .ok (.iload_n 0, 1)) rfl ?_
    refine g_goto (tgt := 10) (by decide +kernel : decode prog_10_method_9_code 6 = .ok (.goto 4, 3)) (by decide) ?_
    exact g_iret hR (by decide +kernel : decode prog_10_method_9_code 10 = .ok (.ireturn, 1)) rfl ⟨_, rfl, ⟨by simp [Int32.not_le.mp h2], rfl⟩⟩
set_option maxRecDepth 20000 in
theorem m_within (Λ : Lay) (σ : Store) (x : Int32) : Ct Λ mt_Md_within 0 [.int x] σ (PF (if 0 ≤ x then (if x ≤ nI 9 then x else nI 9) else nI 0) σ) := by
  refine Ct.of (by decide) (Nat.le_of_ble_eq_true rfl) (fun X hR => ?_)
  show G (Λ, mt_Md_within, 0) X σ [some (.int x)] [] 0
  refine g_iload_n (by decide +kernel : decode prog_10_method_10_code 0 = .ok (.iload_n 0, 1)) rfl ?_
  refine g_if_ge (tgt := 8) (by decide +kernel : decode prog_10_method_10_code 1 = .ok (.ifCond .ge 7, 3)) (by decide) (fun h1 => ?_) (fun h1 => ?_)
  · refine g_iload_n (by decide +kernel : decode prog_10_method_10_code 8 = .ok (.iload_n 0, 1)) rfl ?_
    refine g_bipush (v := nI 9) (by decide +kernel : decode prog_10_method_10_code 9 = .ok (.bipush 9, 2)) (by decide) ?_
    refine g_icmp_le (tgt := 19) (by decide +kernel : decode prog_10_method_10_code 11 = .ok (.if_icmp .le 8, 3)) (by decide) (fun h11 => ?_) (fun h11 => ?_)
    · refine g_iload_n (by decide +kernel : decode prog_10_method_10_code 19 = .ok (.iload_n 0, 1)) rfl ?_
      exact g_iret hR (by decide +kernel : decode prog_10_method_10_code 20 = .ok (.ireturn, 1)) rfl ⟨_, rfl, ⟨by simp only [h1, h11, ↓reduceIte, not_true_eq_false, not_false_eq_true, false_or, true_or, or_true, or_false, and_true, true_and, false_and, and_false], rfl⟩⟩
    · refine g_bipush (v := nI 9) (by decide +kernel : decode prog_10_method_10_code 14 = .ok (.bipush 9, 2)) (by decide) ?_
      refine g_goto (tgt := 20) (by decide +kernel : decode prog_10_method_10_code 16 = .ok (.goto 4, 3)) (by decide) ?_
      exact g_iret hR (by decide +kernel : decode prog_10_method_10_code 20 = .ok (.ireturn, 1)) rfl ⟨_, rfl, ⟨by simp only [h1, h11, ↓reduceIte, not_true_eq_false, not_false_eq_true, false_or, true_or, or_true, or_false, and_true, true_and, false_and, and_false], rfl⟩⟩
  · refine g_iconst (v := nI 0) (by decide +kernel : decode prog_10_method_10_code 4 = .ok (.iconst 0, 1)) (by decide) ?_
    refine g_goto (tgt := 20) (by decide +kernel : decode prog_10_method_10_code 5 = .ok (.goto 15, 3)) (by decide) ?_
    exact g_iret hR (by decide +kernel : decode prog_10_method_10_code 20 = .ok (.ireturn, 1)) rfl ⟨_, rfl, ⟨by simp only [h1, ↓reduceIte, not_true_eq_false, not_false_eq_true, false_or, true_or, or_true, or_false, and_true, true_and, false_and, and_false], rfl⟩⟩
set_option maxRecDepth 20000 in
theorem m_isAlpha (Λ : Lay) (σ : Store) (x : Int32) : Ct Λ mt_Md_isAlpha 0 [.int x] σ (PB σ (97 ≤ x ∧ x ≤ 122)) := by
  refine Ct.of (by decide) (Nat.le_of_ble_eq_true rfl) (fun X hR => ?_)
  show G (Λ, mt_Md_isAlpha, 0) X σ [some (.int x)] [] 0
  refine g_iload_n (by decide +kernel : decode prog_10_method_14_code 0 = .ok (.iload_n 0, 1)) rfl ?_
  refine g_bipush (v := nI 97) (by decide +kernel : decode prog_10_method_14_code 1 = .ok (.bipush 97, 2)) (by decide) ?_
  refine g_icmp_lt (tgt := 16) (by decide +kernel : decode prog_10_method_14_code 3 = .ok (.if_icmp .lt 13, 3)) (by decide) (fun h3 => ?_) (fun h3 => ?_)
  · refine g_iconst (v := nI 0) (by decide +kernel : decode prog_10_method_14_code 16 = .ok (.iconst 0, 1)) (by decide) ?_
    exact g_zret hR (by decide +kernel : decode prog_10_method_14_code 17 = .ok (.ireturn, 1)) rfl (by decide) ⟨_, rfl, ⟨rfl, Or.inr ⟨rfl, by intro q; first | exact absurd q.1 (Int32.not_le.mpr (by assumption)) | exact absurd q.2 (Int32.not_le.mpr (by assumption)) | (simp_all; done)⟩⟩⟩
  · refine g_iload_n (by decide +kernel : decode prog_10_method_14_code 6 = .ok (.iload_n 0, 1)) rfl ?_
    refine g_bipush (v := nI 122) (by decide +kernel : decode prog_10_method_14_code 7 = .ok (.bipush 122, 2)) (by decide) ?_
    refine g_icmp_gt (tgt := 16) (by decide +kernel : decode prog_10_method_14_code 9 = .ok (.if_icmp .gt 7, 3)) (by decide) (fun h9 => ?_) (fun h9 => ?_)
    · refine g_iconst (v := nI 0) (by decide +kernel : decode prog_10_method_14_code 16 = .ok (.iconst 0, 1)) (by decide) ?_
      exact g_zret hR (by decide +kernel : decode prog_10_method_14_code 17 = .ok (.ireturn, 1)) rfl (by decide) ⟨_, rfl, ⟨rfl, Or.inr ⟨rfl, by intro q; first | exact absurd q.1 (Int32.not_le.mpr (by assumption)) | exact absurd q.2 (Int32.not_le.mpr (by assumption)) | (simp_all; done)⟩⟩⟩
    · refine g_iconst (v := nI 1) (by decide +kernel : decode prog_10_method_14_code 12 = .ok (.iconst 1, 1)) (by decide) ?_
      refine g_goto (tgt := 17) (by decide +kernel : decode prog_10_method_14_code 13 = .ok (.goto 4, 3)) (by decide) ?_
      exact g_zret hR (by decide +kernel : decode prog_10_method_14_code 17 = .ok (.ireturn, 1)) rfl (by decide) ⟨_, rfl, ⟨rfl, Or.inl ⟨rfl, by refine ⟨?_, ?_⟩ <;> first | exact Int32.not_lt.mp (by assumption) | assumption⟩⟩⟩
set_option maxRecDepth 20000 in
theorem m_isDigit (Λ : Lay) (σ : Store) (x : Int32) : Ct Λ mt_Md_isDigit 0 [.int x] σ (PB σ (48 ≤ x ∧ x ≤ 57)) := by
  refine Ct.of (by decide) (Nat.le_of_ble_eq_true rfl) (fun X hR => ?_)
  show G (Λ, mt_Md_isDigit, 0) X σ [some (.int x)] [] 0
  refine g_iload_n (by decide +kernel : decode prog_10_method_15_code 0 = .ok (.iload_n 0, 1)) rfl ?_
  refine g_bipush (v := nI 48) (by decide +kernel : decode prog_10_method_15_code 1 = .ok (.bipush 48, 2)) (by decide) ?_
  refine g_icmp_lt (tgt := 16) (by decide +kernel : decode prog_10_method_15_code 3 = .ok (.if_icmp .lt 13, 3)) (by decide) (fun h3 => ?_) (fun h3 => ?_)
  · refine g_iconst (v := nI 0) (by decide +kernel : decode prog_10_method_15_code 16 = .ok (.iconst 0, 1)) (by decide) ?_
    exact g_zret hR (by decide +kernel : decode prog_10_method_15_code 17 = .ok (.ireturn, 1)) rfl (by decide) ⟨_, rfl, ⟨rfl, Or.inr ⟨rfl, by intro q; first | exact absurd q.1 (Int32.not_le.mpr (by assumption)) | exact absurd q.2 (Int32.not_le.mpr (by assumption)) | (simp_all; done)⟩⟩⟩
  · refine g_iload_n (by decide +kernel : decode prog_10_method_15_code 6 = .ok (.iload_n 0, 1)) rfl ?_
    refine g_bipush (v := nI 57) (by decide +kernel : decode prog_10_method_15_code 7 = .ok (.bipush 57, 2)) (by decide) ?_
    refine g_icmp_gt (tgt := 16) (by decide +kernel : decode prog_10_method_15_code 9 = .ok (.if_icmp .gt 7, 3)) (by decide) (fun h9 => ?_) (fun h9 => ?_)
    · refine g_iconst (v := nI 0) (by decide +kernel : decode prog_10_method_15_code 16 = .ok (.iconst 0, 1)) (by decide) ?_
      exact g_zret hR (by decide +kernel : decode prog_10_method_15_code 17 = .ok (.ireturn, 1)) rfl (by decide) ⟨_, rfl, ⟨rfl, Or.inr ⟨rfl, by intro q; first | exact absurd q.1 (Int32.not_le.mpr (by assumption)) | exact absurd q.2 (Int32.not_le.mpr (by assumption)) | (simp_all; done)⟩⟩⟩
    · refine g_iconst (v := nI 1) (by decide +kernel : decode prog_10_method_15_code 12 = .ok (.iconst 1, 1)) (by decide) ?_
      refine g_goto (tgt := 17) (by decide +kernel : decode prog_10_method_15_code 13 = .ok (.goto 4, 3)) (by decide) ?_
      exact g_zret hR (by decide +kernel : decode prog_10_method_15_code 17 = .ok (.ireturn, 1)) rfl (by decide) ⟨_, rfl, ⟨rfl, Or.inl ⟨rfl, by refine ⟨?_, ?_⟩ <;> first | exact Int32.not_lt.mp (by assumption) | assumption⟩⟩⟩
set_option maxRecDepth 20000 in
theorem m_mostOf (Λ : Lay) (σ : Store) (x : Int32) : Ct Λ mt_Md_mostOf 0 [.int x] σ (PF (if x = 0 then nI 99 else if x = nI 3 then nI 99 else nI 9) σ) := by
  refine Ct.of (by decide) (Nat.le_of_ble_eq_true rfl) (fun X hR => ?_)
  show G (Λ, mt_Md_mostOf, 0) X σ [some (.int x)] [] 0
  refine g_iload_n (by decide +kernel : decode prog_10_method_32_code 0 = .ok (.iload_n 0, 1)) rfl ?_
  refine g_if_eq (tgt := 9) (by decide +kernel : decode prog_10_method_32_code 1 = .ok (.ifCond .eq 8, 3)) (by decide) (fun h1 => ?_) (fun h1 => ?_)
  · refine g_bipush (v := nI 99) (by decide +kernel : decode prog_10_method_32_code 9 = .ok (.bipush 99, 2)) (by decide) ?_
    refine g_goto (tgt := 16) (by decide +kernel : decode prog_10_method_32_code 11 = .ok (.goto 5, 3)) (by decide) ?_
    exact g_iret hR (by decide +kernel : decode prog_10_method_32_code 16 = .ok (.ireturn, 1)) rfl ⟨_, rfl, ⟨by first | rw [if_pos h1] | rw [if_neg h1, if_pos h6] | rw [if_neg h1, if_neg h6], rfl⟩⟩
  · refine g_iload_n (by decide +kernel : decode prog_10_method_32_code 4 = .ok (.iload_n 0, 1)) rfl ?_
    refine g_iconst (v := nI 3) (by decide +kernel : decode prog_10_method_32_code 5 = .ok (.iconst 3, 1)) (by decide) ?_
    refine g_icmp_ne (tgt := 14) (by decide +kernel : decode prog_10_method_32_code 6 = .ok (.if_icmp .ne 8, 3)) (by decide) (fun h6 => ?_) (fun h6 => ?_)
    · refine g_bipush (v := nI 9) (by decide +kernel : decode prog_10_method_32_code 14 = .ok (.bipush 9, 2)) (by decide) ?_
      exact g_iret hR (by decide +kernel : decode prog_10_method_32_code 16 = .ok (.ireturn, 1)) rfl ⟨_, rfl, ⟨by first | rw [if_pos h1] | rw [if_neg h1, if_pos h6] | rw [if_neg h1, if_neg h6], rfl⟩⟩
    · refine g_bipush (v := nI 99) (by decide +kernel : decode prog_10_method_32_code 9 = .ok (.bipush 99, 2)) (by decide) ?_
      refine g_goto (tgt := 16) (by decide +kernel : decode prog_10_method_32_code 11 = .ok (.goto 5, 3)) (by decide) ?_
      exact g_iret hR (by decide +kernel : decode prog_10_method_32_code 16 = .ok (.ireturn, 1)) rfl ⟨_, rfl, ⟨by first | rw [if_pos h1] | rw [if_neg h1, if_pos h6] | rw [if_neg h1, if_neg h6], rfl⟩⟩
def popF : Nat → Nat → Nat
  | 0, _ => 0
  | f + 1, a => if a = 0 then 0 else 1 + popF f (a &&& (a - 1))
def popc (a : Nat) : Nat := popF 13 a
theorem popc_0 : popc 0 = 0 := rfl
set_option maxRecDepth 100000 in
theorem popc_s0 : ∀ a : Fin 4096, a.val ≠ 0 → popc a.val = 1 + popc (a.val &&& (a.val - 1)) := by decide +kernel
theorem popc_s {a : Nat} (h : a < 4096) (h0 : a ≠ 0) : popc a = 1 + popc (a &&& (a - 1)) := popc_s0 ⟨a, h⟩ h0
theorem and_pred_lt {a : Nat} (h0 : a ≠ 0) : a &&& (a - 1) < a := Nat.lt_of_le_of_lt Nat.and_le_right (by omega)
theorem nI_and (a b : Nat) : nI a &&& nI b = nI (a &&& b) := by
  apply Int32.toBitVec_inj.mp
  show BitVec.ofNat 32 a &&& BitVec.ofNat 32 b = BitVec.ofNat 32 (a &&& b)
  exact (BitVec.ofNat_and).symm
theorem popF_le : ∀ f a, popF f a ≤ f := by
  intro f
  induction f with
  | zero => intro a; exact Nat.le_refl _
  | succ f ih =>
    intro a
    unfold popF
    split
    · omega
    · have := ih (a &&& (a - 1)); omega
theorem popc_le (a : Nat) : popc a ≤ 13 := popF_le 13 a
set_option maxRecDepth 20000 in
theorem m_size_lp {Λ : Lay} {X : CX} {σ : Store} {t : Nat} : ∀ (b a c : Nat), a < b → a < 4096 → c + popc a = t → t < 1000 → Rt (Λ, mt_Md_size, 0) (PF (nI t) σ) X → G (Λ, mt_Md_size, 0) X σ [none, some (.int (nI c)), some (.int (nI a))] [] 4 := by
  intro b
  induction b with
  | zero => intro a c h; omega
  | succ b ih =>
  intro a c hb ha hc ht hR
  refine g_iload_n (by decide +kernel : decode prog_10_method_11_code 4 = .ok (.iload_n 2, 1)) rfl ?_
  refine g_if_eqN (tgt := 20) (by decide +kernel : decode prog_10_method_11_code 5 = .ok (.ifCond .eq 15, 3)) (by decide) (by omega) (fun h5 => ?_) (fun h5 => ?_)
  · refine g_iload_n (by decide +kernel : decode prog_10_method_11_code 20 = .ok (.iload_n 1, 1)) rfl ?_
    exact g_iret hR (by decide +kernel : decode prog_10_method_11_code 21 = .ok (.ireturn, 1)) rfl ⟨_, rfl, ⟨by rw [← hc, h5, popc_0]; rfl, rfl⟩⟩
  · refine g_iincN (n := 1) (L' := [none, some (.int (nI (c + 1))), some (.int (nI a))]) (by decide +kernel : decode prog_10_method_11_code 8 = .ok (.iinc 1 1, 3)) rfl (by decide) (Nat.le_of_ble_eq_true rfl) rfl ?_
    refine g_iload_n (by decide +kernel : decode prog_10_method_11_code 11 = .ok (.iload_n 2, 1)) rfl ?_
    refine g_iload_n (by decide +kernel : decode prog_10_method_11_code 12 = .ok (.iload_n 2, 1)) rfl ?_
    refine g_iconst (v := nI 1) (by decide +kernel : decode prog_10_method_11_code 13 = .ok (.iconst 1, 1)) (by decide) ?_
    refine g_isubN (by decide +kernel : decode prog_10_method_11_code 14 = .ok (.isub, 1)) (by omega) ?_
    refine g_iand (by decide +kernel : decode prog_10_method_11_code 15 = .ok (.iand, 1)) ?_
    refine g_top (w := nI (a &&& (a - 1))) (nI_and _ _) ?_
    refine g_istore_n (L' := [none, some (.int (nI (c + 1))), some (.int (nI (a &&& (a - 1))))]) (by decide +kernel : decode prog_10_method_11_code 16 = .ok (.istore_n 2, 1)) (Nat.le_of_ble_eq_true rfl) rfl ?_
    refine g_goto (tgt := 4) (by decide +kernel : decode prog_10_method_11_code 17 = .ok (.goto (-13), 3)) (by decide) ?_
    exact ih _ _ (Nat.lt_of_lt_of_le (and_pred_lt h5) (by omega)) (Nat.lt_trans (and_pred_lt h5) ha) (by rw [← hc, popc_s ha h5]; omega) ht hR
set_option maxRecDepth 20000 in
theorem m_size (Λ : Lay) (σ : Store) (a : Nat) (ha : a < 4096) : Ct Λ mt_Md_size 0 [.int (nI a)] σ (PF (nI (popc a)) σ) := by
  refine Ct.of (by decide) (Nat.le_of_ble_eq_true rfl) (fun X hR => ?_)
  show G (Λ, mt_Md_size, 0) X σ [some (.int (nI a)), none, none] [] 0
  refine g_iconst (v := nI 0) (by decide +kernel : decode prog_10_method_11_code 0 = .ok (.iconst 0, 1)) (by decide) ?_
  refine g_istore_n (L' := [some (.int (nI a)), some (.int (nI 0)), none]) (by decide +kernel : decode prog_10_method_11_code 1 = .ok (.istore_n 1, 1)) (Nat.le_of_ble_eq_true rfl) rfl ?_
  refine g_iload_n (by decide +kernel : decode prog_10_method_11_code 2 = .ok (.iload_n 0, 1)) rfl ?_
  refine g_istore_n (L' := [some (.int (nI a)), some (.int (nI 0)), some (.int (nI a))]) (by decide +kernel : decode prog_10_method_11_code 3 = .ok (.istore_n 2, 1)) (Nat.le_of_ble_eq_true rfl) rfl ?_
  exact g_sub (L' := [none, some (.int (nI 0)), some (.int (nI a))]) ⟨rfl, rfl, trivial⟩ (m_size_lp (a + 1) a 0 (by omega) ha (by omega) (by have := popc_le a; omega) hR)
