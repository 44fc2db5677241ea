/-! THE REFERENCE: rows of years -/
def ri (r : Nat) (x : Int32) : Option Nat := if 0 ≤ x ∧ x < nI r then some (tn x) else none
theorem ri_of {r j : Nat} (hr : r < 2 ^ 31) (h : j < r) : ri r (nI j) = some j := by
  unfold ri
  rw [if_pos ⟨nI_pos' (by omega), nI_lt h hr⟩, tn_nI (by omega)]
theorem ri_none {r : Nat} {x : Int32} (hr : r < 2 ^ 31) (h : ¬ ∃ j, j < r ∧ x = nI j) : ri r x = none := by
  unfold ri
  rw [if_neg (fun q => h ((i32_lt x hr).mp q))]
def rix (r : Nat) (x y : Int32) : Option Nat := match ri r x with
  | none => none
  | some i => match rg 0 2 y with
    | none => none
    | some w => some (3 * i + w)
theorem rix_of {r i w : Nat} (hr : r < 2 ^ 31) (h : i < r) (hw : w ≤ 2) : rix r (nI i) (nI w) = some (3 * i + w) := by
  unfold rix
  rw [ri_of hr h]
  dsimp only
  rw [rg_of (Nat.zero_le _) hw]
theorem rix_none {r : Nat} {x y : Int32} (hr : r < 2 ^ 31) (h : ¬ ((∃ j, j < r ∧ x = nI j) ∧ ∃ j, 0 ≤ j ∧ j ≤ 2 ∧ y = nI j)) : rix r x y = none := by
  unfold rix
  by_cases h1 : ∃ j, j < r ∧ x = nI j
  · obtain ⟨j, hj, rfl⟩ := h1
    rw [ri_of hr hj]
    dsimp only
    rw [rg_none (fun q => h ⟨⟨j, hj, rfl⟩, q⟩)]
  · rw [ri_none hr h1]
theorem i64_to (x : Int32) {r : Nat} (hr : r < 2 ^ 30) : (lN 0 ≤ x.toInt64 ∧ x.toInt64 ≤ (nI r - nI 1).toInt64) ↔ ∃ j, j < r ∧ x = nI j := by
  have hx : x.toInt64.toInt = x.toInt := by simp
  have hy : (nI r - nI 1).toInt64.toInt = (nI r - nI 1).toInt := by simp
  rw [Int64.le_iff_toInt_le, Int64.le_iff_toInt_le, hx, hy, pk_sub_toInt hr (by decide), lN_toInt (by decide)]
  constructor
  · rintro ⟨h1, h2⟩
    refine ⟨x.toInt.toNat, by omega, ?_⟩
    apply Int32.toInt_inj.mp
    rw [nI_toInt (by omega)]; omega
  · rintro ⟨j, h1, rfl⟩
    rw [nI_toInt (by omega)]; omega
theorem m_isInR (Λ : Lay) (σ : Store) (x : Int32) {r : Nat} (hr : r < 2 ^ 30) : Ct Λ mt_Md_isIn 0 [.long x.toInt64, .long (lN 0), .long (nI r - nI 1).toInt64] σ (PB σ (∃ j, j < r ∧ x = nI j)) := PB.of (m_isIn Λ σ _ _ _) (i64_to x hr)
set_option maxRecDepth 20000 in
theorem m_isRow (σ : Store) (f b : Row) (x y : Int32) {r : Nat} (hr : σ 0 14 = nI r) (hr10 : r ≤ 10) : Ct ΛM mt_Md_isRow 1 [.ref 0, .int x, .int y] (mS σ f b) (PB (mS σ f b) ((∃ j, j < r ∧ x = nI j) ∧ ∃ j, 0 ≤ j ∧ j ≤ 2 ∧ y = nI j)) := by
  refine Ct.of (by decide) (Nat.le_of_ble_eq_true rfl) (fun X hR => ?_)
  show G (ΛM, mt_Md_isRow, 1) X (mS σ f b) [some (.ref 0), some (.int x), some (.int y)] [] 0
  refine g_iload_n (by decide +kernel : decode prog_10_method_81_code 0 = .ok (.iload_n 1, 1)) rfl ?_
  refine g_i2l (by decide +kernel : decode prog_10_method_81_code 1 = .ok (.i2l, 1)) ?_
  refine g_lconst (v := lN 0) (by decide +kernel : decode prog_10_method_81_code 2 = .ok (.lconst 0, 1)) (by decide) ?_
  refine g_aload_n (by decide +kernel : decode prog_10_method_81_code 3 = .ok (.aload_n 0, 1)) rfl ?_
  refine g_getI (by decide +kernel : decode prog_10_method_81_code 4 = .ok (.getfield 148, 3)) fl_Md_148.get rfl rfl ?_
  refine g_top (w := nI r) (hr) ?_
  refine g_iconst (v := nI 1) (by decide +kernel : decode prog_10_method_81_code 7 = .ok (.iconst 1, 1)) (by decide) ?_
  refine g_isub (by decide +kernel : decode prog_10_method_81_code 8 = .ok (.isub, 1)) ?_
  refine g_i2l (by decide +kernel : decode prog_10_method_81_code 9 = .ok (.i2l, 1)) ?_
  refine g_callSI [.long (Int32.toInt64 x), .long (lN 0), .long (Int32.toInt64 ((nI r) - (nI 1)))] (by decide +kernel : decode prog_10_method_81_code 10 = .ok (.invokestatic 57, 3)) lk_Md_57 (m_isInR ΛM (mS σ f b) x (r := r) (by omega)) rfl rfl (Nat.le_of_ble_eq_true rfl) (Nat.le_of_ble_eq_true rfl) (fun r10 s10 h10 => ?_)
  rcases h10 with ⟨rfl, ⟨rfl, q10⟩ | ⟨rfl, q10⟩⟩
  · refine g_if_eqN (tgt := 32) (by decide +kernel : decode prog_10_method_81_code 13 = .ok (.ifCond .eq 19, 3)) (by decide) (by decide) (fun h => False.elim (by revert h; decide)) (fun _ => ?_)
    refine g_iload_n (by decide +kernel : decode prog_10_method_81_code 16 = .ok (.iload_n 2, 1)) rfl ?_
    refine g_i2l (by decide +kernel : decode prog_10_method_81_code 17 = .ok (.i2l, 1)) ?_
    refine g_lconst (v := lN 0) (by decide +kernel : decode prog_10_method_81_code 18 = .ok (.lconst 0, 1)) (by decide) ?_
    refine g_ldc2 (v := lN 2) (by decide +kernel : decode prog_10_method_81_code 19 = .ok (.ldc2_w 175, 3)) kc_Md_175 ?_
    refine g_callSI [.long (Int32.toInt64 y), .long (lN 0), .long (lN 2)] (by decide +kernel : decode prog_10_method_81_code 22 = .ok (.invokestatic 57, 3)) lk_Md_57 (m_isInN ΛM (mS σ f b) y 0 2) rfl rfl (Nat.le_of_ble_eq_true rfl) (Nat.le_of_ble_eq_true rfl) (fun r22 s22 h22 => ?_)
    rcases h22 with ⟨rfl, ⟨rfl, q22⟩ | ⟨rfl, q22⟩⟩
    · refine g_if_eqN (tgt := 32) (by decide +kernel : decode prog_10_method_81_code 25 = .ok (.ifCond .eq 7, 3)) (by decide) (by decide) (fun h => False.elim (by revert h; decide)) (fun _ => ?_)
      refine g_iconst (v := nI 1) (by decide +kernel : decode prog_10_method_81_code 28 = .ok (.iconst 1, 1)) (by decide) ?_
      refine g_goto (tgt := 33) (by decide +kernel : decode prog_10_method_81_code 29 = .ok (.goto 4, 3)) (by decide) ?_
      exact g_zret hR (by decide +kernel : decode prog_10_method_81_code 33 = .ok (.ireturn, 1)) rfl (by decide) ⟨_, rfl, ⟨rfl, Or.inl ⟨rfl, ⟨q10, q22⟩⟩⟩⟩
    · refine g_if_eqN (tgt := 32) (by decide +kernel : decode prog_10_method_81_code 25 = .ok (.ifCond .eq 7, 3)) (by decide) (by decide) (fun _ => ?_) (fun h => False.elim (by revert h; decide))
      refine g_iconst (v := nI 0) (by decide +kernel : decode prog_10_method_81_code 32 = .ok (.iconst 0, 1)) (by decide) ?_
      exact g_zret hR (by decide +kernel : decode prog_10_method_81_code 33 = .ok (.ireturn, 1)) rfl (by decide) ⟨_, rfl, ⟨rfl, Or.inr ⟨rfl, fun z => q22 z.2⟩⟩⟩
  · refine g_if_eqN (tgt := 32) (by decide +kernel : decode prog_10_method_81_code 13 = .ok (.ifCond .eq 19, 3)) (by decide) (by decide) (fun _ => ?_) (fun h => False.elim (by revert h; decide))
    refine g_iconst (v := nI 0) (by decide +kernel : decode prog_10_method_81_code 32 = .ok (.iconst 0, 1)) (by decide) ?_
    exact g_zret hR (by decide +kernel : decode prog_10_method_81_code 33 = .ok (.ireturn, 1)) rfl (by decide) ⟨_, rfl, ⟨rfl, Or.inr ⟨rfl, fun z => q10 z.1⟩⟩⟩
def rowV (σ : Store) (x y : Int32) : Int32 := match rix (tn (σ 0 14)) x y with
  | none => -9
  | some q => σ 7 q
def altS (σ : Store) (x y z : Int32) : Store := match rix (tn (σ 0 14)) x y with
  | none => σ
  | some q => s_up σ 7 q z
set_option maxRecDepth 20000 in
theorem q_row (σ : Store) (f b : Row) (x y : Int32) {r : Nat} (hr : σ 0 14 = nI r) (hr10 : r ≤ 10) : Ct ΛM mt_Md_row 2 [.ref 0, .int x, .int y] (mS σ f b) (PF (rowV σ x y) (mS σ f b)) := by
  refine Ct.of (by decide) (Nat.le_of_ble_eq_true rfl) (fun X hR => ?_)
  show G (ΛM, mt_Md_row, 2) X (mS σ f b) [some (.ref 0), some (.int x), some (.int y)] [] 0
  have htn : tn (σ 0 14) = r := by rw [hr, tn_nI (by omega)]
  refine g_aload_n (by decide +kernel : decode prog_10_method_82_code 0 = .ok (.aload_n 0, 1)) rfl ?_
  refine g_iload_n (by decide +kernel : decode prog_10_method_82_code 1 = .ok (.iload_n 1, 1)) rfl ?_
  refine g_iload_n (by decide +kernel : decode prog_10_method_82_code 2 = .ok (.iload_n 2, 1)) rfl ?_
  refine g_callVI [.int x, .int y] (by decide +kernel : decode prog_10_method_82_code 3 = .ok (.invokevirtual 260, 3)) lk_Md_260 (m_isRow σ f b x y hr hr10) rfl rfl rfl rfl (Nat.le_of_ble_eq_true rfl) (Nat.le_of_ble_eq_true rfl) (fun r3 s3 h3 => ?_)
  rcases h3 with ⟨rfl, ⟨rfl, ⟨i, hi, rfl⟩, ⟨w, hw0, hw, rfl⟩⟩ | ⟨rfl, hno⟩⟩
  · refine g_if_eqN (tgt := 22) (by decide +kernel : decode prog_10_method_82_code 6 = .ok (.ifCond .eq 16, 3)) (by decide) (by decide) (fun h => False.elim (by revert h; decide)) (fun _ => ?_)
    refine g_aload_n (by decide +kernel : decode prog_10_method_82_code 9 = .ok (.aload_n 0, 1)) rfl ?_
    refine g_getR (by decide +kernel : decode prog_10_method_82_code 10 = .ok (.getfield 28, 3)) fl_Md_28 rfl rfl ?_
    refine g_iconst (v := nI 3) (by decide +kernel : decode prog_10_method_82_code 13 = .ok (.iconst 3, 1)) (by decide) ?_
    refine g_iload_n (by decide +kernel : decode prog_10_method_82_code 14 = .ok (.iload_n 1, 1)) rfl ?_
    refine g_imulN (by decide +kernel : decode prog_10_method_82_code 15 = .ok (.imul, 1)) ?_
    refine g_iload_n (by decide +kernel : decode prog_10_method_82_code 16 = .ok (.iload_n 2, 1)) rfl ?_
    refine g_iaddN (by decide +kernel : decode prog_10_method_82_code 17 = .ok (.iadd, 1)) ?_
    refine g_iaload (a := 3 * i + w) (by decide +kernel : decode prog_10_method_82_code 18 = .ok (.iaload, 1)) rfl rfl (by omega) (by decide) ?_
    refine g_top (w := σ 7 (3 * i + w)) (rfl) ?_
    refine g_goto (tgt := 24) (by decide +kernel : decode prog_10_method_82_code 19 = .ok (.goto 5, 3)) (by decide) ?_
    exact g_iret hR (by decide +kernel : decode prog_10_method_82_code 24 = .ok (.ireturn, 1)) rfl ⟨_, rfl, ⟨by simp only [rowV, htn, rix_of (show r < 2 ^ 31 by omega) hi hw], rfl⟩⟩
  · refine g_if_eqN (tgt := 22) (by decide +kernel : decode prog_10_method_82_code 6 = .ok (.ifCond .eq 16, 3)) (by decide) (by decide) (fun _ => ?_) (fun h => False.elim (by revert h; decide))
    refine g_bipush (v := (-9)) (by decide +kernel : decode prog_10_method_82_code 22 = .ok (.bipush (-9), 2)) (by decide) ?_
    exact g_iret hR (by decide +kernel : decode prog_10_method_82_code 24 = .ok (.ireturn, 1)) rfl ⟨_, rfl, ⟨by simp only [rowV, htn, rix_none (show r < 2 ^ 31 by omega) hno], rfl⟩⟩
set_option maxRecDepth 20000 in
theorem q_alterRow (σ : Store) (f b : Row) (x y z : Int32) {r : Nat} (hr : σ 0 14 = nI r) (hr10 : r ≤ 10) : Ct ΛM mt_Md_alterRow 2 [.ref 0, .int x, .int y, .int z] (mS σ f b) (PF (rowV σ x y) (mS (altS σ x y z) f b)) := by
  refine Ct.of (by decide) (Nat.le_of_ble_eq_true rfl) (fun X hR => ?_)
  show G (ΛM, mt_Md_alterRow, 2) X (mS σ f b) [some (.ref 0), some (.int x), some (.int y), some (.int z), none] [] 0
  have htn : tn (σ 0 14) = r := by rw [hr, tn_nI (by omega)]
  refine g_aload_n (by decide +kernel : decode prog_10_method_83_code 0 = .ok (.aload_n 0, 1)) rfl ?_
  refine g_iload_n (by decide +kernel : decode prog_10_method_83_code 1 = .ok (.iload_n 1, 1)) rfl ?_
  refine g_iload_n (by decide +kernel : decode prog_10_method_83_code 2 = .ok (.iload_n 2, 1)) rfl ?_
  refine g_callVI [.int x, .int y] (by decide +kernel : decode prog_10_method_83_code 3 = .ok (.invokevirtual 260, 3)) lk_Md_260 (m_isRow σ f b x y hr hr10) rfl rfl rfl rfl (Nat.le_of_ble_eq_true rfl) (Nat.le_of_ble_eq_true rfl) (fun r3 s3 h3 => ?_)
  rcases h3 with ⟨rfl, ⟨rfl, ⟨i, hi, rfl⟩, ⟨w, hw0, hw, rfl⟩⟩ | ⟨rfl, hno⟩⟩
  · refine g_if_neN (tgt := 12) (by decide +kernel : decode prog_10_method_83_code 6 = .ok (.ifCond .ne 6, 3)) (by decide) (by decide) (fun _ => ?_) (fun h => False.elim (by revert h; decide))
    refine g_aload_n (by decide +kernel : decode prog_10_method_83_code 12 = .ok (.aload_n 0, 1)) rfl ?_
    refine g_getR (by decide +kernel : decode prog_10_method_83_code 13 = .ok (.getfield 28, 3)) fl_Md_28 rfl rfl ?_
    refine g_iconst (v := nI 3) (by decide +kernel : decode prog_10_method_83_code 16 = .ok (.iconst 3, 1)) (by decide) ?_
    refine g_iload_n (by decide +kernel : decode prog_10_method_83_code 17 = .ok (.iload_n 1, 1)) rfl ?_
    refine g_imulN (by decide +kernel : decode prog_10_method_83_code 18 = .ok (.imul, 1)) ?_
    refine g_iload_n (by decide +kernel : decode prog_10_method_83_code 19 = .ok (.iload_n 2, 1)) rfl ?_
    refine g_iaddN (by decide +kernel : decode prog_10_method_83_code 20 = .ok (.iadd, 1)) ?_
    refine g_iaload (a := 3 * i + w) (by decide +kernel : decode prog_10_method_83_code 21 = .ok (.iaload, 1)) rfl rfl (by omega) (by decide) ?_
    refine g_top (w := σ 7 (3 * i + w)) (rfl) ?_
    refine g_istore (L' := [some (.ref 0), some (.int (nI i)), some (.int (nI w)), some (.int z), some (.int (σ 7 (3 * i + w)))]) (by decide +kernel : decode prog_10_method_83_code 22 = .ok (.istore 4, 2)) (Nat.le_of_ble_eq_true rfl) rfl ?_
    refine g_aload_n (by decide +kernel : decode prog_10_method_83_code 24 = .ok (.aload_n 0, 1)) rfl ?_
    refine g_getR (by decide +kernel : decode prog_10_method_83_code 25 = .ok (.getfield 28, 3)) fl_Md_28 rfl rfl ?_
    refine g_iconst (v := nI 3) (by decide +kernel : decode prog_10_method_83_code 28 = .ok (.iconst 3, 1)) (by decide) ?_
    refine g_iload_n (by decide +kernel : decode prog_10_method_83_code 29 = .ok (.iload_n 1, 1)) rfl ?_
    refine g_imulN (by decide +kernel : decode prog_10_method_83_code 30 = .ok (.imul, 1)) ?_
    refine g_iload_n (by decide +kernel : decode prog_10_method_83_code 31 = .ok (.iload_n 2, 1)) rfl ?_
    refine g_iaddN (by decide +kernel : decode prog_10_method_83_code 32 = .ok (.iadd, 1)) ?_
    refine g_iload_n (by decide +kernel : decode prog_10_method_83_code 33 = .ok (.iload_n 3, 1)) rfl ?_
    refine g_iastore (a := 3 * i + w) (by decide +kernel : decode prog_10_method_83_code 34 = .ok (.iastore, 1)) rfl rfl (by omega) (by decide) ?_
    refine g_sto (mS_uk _ _ _ _ _ (by decide) (by decide)) ?_
    refine g_iload (by decide +kernel : decode prog_10_method_83_code 35 = .ok (.iload 4, 2)) rfl ?_
    exact g_iret hR (by decide +kernel : decode prog_10_method_83_code 37 = .ok (.ireturn, 1)) rfl ⟨_, rfl, ⟨by simp only [rowV, htn, rix_of (show r < 2 ^ 31 by omega) hi hw], by simp only [altS, htn, rix_of (show r < 2 ^ 31 by omega) hi hw]⟩⟩
  · refine g_if_neN (tgt := 12) (by decide +kernel : decode prog_10_method_83_code 6 = .ok (.ifCond .ne 6, 3)) (by decide) (by decide) (fun h => False.elim (by revert h; decide)) (fun _ => ?_)
    refine g_bipush (v := (-9)) (by decide +kernel : decode prog_10_method_83_code 9 = .ok (.bipush (-9), 2)) (by decide) ?_
    exact g_iret hR (by decide +kernel : decode prog_10_method_83_code 11 = .ok (.ireturn, 1)) rfl ⟨_, rfl, ⟨by simp only [rowV, htn, rix_none (show r < 2 ^ 31 by omega) hno], by simp only [altS, htn, rix_none (show r < 2 ^ 31 by omega) hno]⟩⟩
/-- the rows of one by k years, over what lay there -/
def prF (f : Row) (o : Nat) (R : Row) : Nat → Row
  | 0 => R
  | k + 1 => upd (upd (upd (prF f o R k) (3 * k) (yN 255 f (k + 1) (19 + 6 * o + 3))) (3 * k + 1) (yN 255 f (k + 1) (19 + 6 * o + 4))) (3 * k + 2) (yN 255 f (k + 1) (19 + 6 * o + 5))
theorem mS_u7 (σ : Store) (R a f b : Row) (i : Nat) (v : Int32) : s_up (mS (s_row (s_row σ 7 R) 3 a) f b) 7 i v = mS (s_row (s_row σ 7 (upd R i v)) 3 a) f b := by
  funext k
  unfold mS s_up s_row
  by_cases h : k = 7
  · subst h; rfl
  · simp [h]
theorem mS_u0 (σ : Store) (a f b : Row) (i : Nat) (v : Int32) : s_up (mS (s_row σ 3 a) f b) 0 i v = mS (s_row (s_up σ 0 i v) 3 a) f b := by
  funext k
  unfold mS s_up s_row
  by_cases h : k = 0
  · subst h; rfl
  · simp [h]
def proveV (f : Row) (x y : Int32) : Int32 := match pz f x with
  | none => -1
  | some _ => match rg 1 10 y with
    | none => -1
    | some n => nI n
def proveS (σ : Store) (f : Row) (x y : Int32) : Store := match pz f x with
  | none => σ
  | some o => match rg 1 10 y with
    | none => σ
    | some n => s_up (s_row σ 7 (prF f o (σ 7) n)) 0 14 (nI n)
set_option maxRecDepth 20000 in
theorem p_prove_lp {X : CX} {σ : Store} {f b : Row} (hI : Inv f) {o : Nat} (ho : o < nn f) {n : Nat} (hn : n ≤ 10) : ∀ (b9 k : Nat), k ≤ n → n - k < b9 → Rt (ΛM, mt_Md_prove, 4) (mP (s_up (s_row σ 7 (prF f o (σ 7) n)) 0 14 (nI n)) (nI n) f) X → G (ΛM, mt_Md_prove, 4) X (mS (s_row (s_row σ 7 (prF f o (σ 7) k)) 3 f) (yN 255 f k) (yB 255 f b k)) [some (.ref 0), some (.int (nI o)), some (.int (nI n)), some (.int (nI k))] [] 35 := by
  have hn8 := hI.n.2
  intro b9
  induction b9 with
  | zero => intro k hk hb hR; omega
  | succ b9 ih =>
  intro k hk hb hR
  refine g_iload_n (by decide +kernel : decode prog_10_method_80_code 35 = .ok (.iload_n 3, 1)) rfl ?_
  refine g_iload_n (by decide +kernel : decode prog_10_method_80_code 36 = .ok (.iload_n 2, 1)) rfl ?_
  refine g_icmp_geN (tgt := 99) (by decide +kernel : decode prog_10_method_80_code 37 = .ok (.if_icmp .ge 62, 3)) (by decide) (by omega) (by omega) (fun h37 => ?_) (fun h37 => ?_)
  · refine g_aload_n (by decide +kernel : decode prog_10_method_80_code 99 = .ok (.aload_n 0, 1)) rfl ?_
    refine g_getR (by decide +kernel : decode prog_10_method_80_code 100 = .ok (.getfield 16, 3)) fl_Md_16 rfl rfl ?_
    refine g_aload_n (by decide +kernel : decode prog_10_method_80_code 103 = .ok (.aload_n 0, 1)) rfl ?_
    refine g_getR (by decide +kernel : decode prog_10_method_80_code 104 = .ok (.getfield 7, 3)) fl_Md_7 rfl rfl ?_
    refine g_callSV [.ref 3, .ref 1] (by decide +kernel : decode prog_10_method_80_code 107 = .ok (.invokestatic 141, 3)) lk_Md_141 (m_back (s_row σ 7 (prF f o (σ 7) k)) f (yN 255 f k) (yB 255 f b k)) rfl rfl (Nat.le_of_ble_eq_true rfl) (Nat.le_of_ble_eq_true rfl) (fun s107 h107 => ?_)
    obtain rfl := h107
    refine g_aload_n (by decide +kernel : decode prog_10_method_80_code 110 = .ok (.aload_n 0, 1)) rfl ?_
    refine g_iload_n (by decide +kernel : decode prog_10_method_80_code 111 = .ok (.iload_n 2, 1)) rfl ?_
    refine g_putI (by decide +kernel : decode prog_10_method_80_code 112 = .ok (.putfield 148, 3)) fl_Md_148 rfl rfl ?_
    refine g_sto (mS_u0 _ _ _ _ _ _) ?_
    refine g_iload_n (by decide +kernel : decode prog_10_method_80_code 115 = .ok (.iload_n 2, 1)) rfl ?_
    exact g_iret hR (by decide +kernel : decode prog_10_method_80_code 116 = .ok (.ireturn, 1)) rfl ⟨_, rfl, rfl, ⟨_, _, by rw [show k = n by omega]⟩⟩
  · refine g_aload_n (by decide +kernel : decode prog_10_method_80_code 40 = .ok (.aload_n 0, 1)) rfl ?_
    refine g_sipush (v := nI 255) (by decide +kernel : decode prog_10_method_80_code 41 = .ok (.sipush 255, 3)) (by decide) ?_
    refine g_callVV [.int (nI 255)] (by decide +kernel : decode prog_10_method_80_code 44 = .ok (.invokevirtual 202, 3)) lk_Md_202 ((m_goesBy (s_row (s_row σ 7 (prF f o (σ 7) k)) 3 f) (yN 255 f k) (yB 255 f b k) (yN_inv hI k).1 255 (by omega))) rfl rfl rfl rfl (Nat.le_of_ble_eq_true rfl) (Nat.le_of_ble_eq_true rfl) (fun s44 h44 => ?_)
    obtain rfl := h44
    refine g_sto (σ' := mS (s_row (s_row σ 7 (prF f o (σ 7) k)) 3 f) (yN 255 f (k + 1)) (yB 255 f b (k + 1))) (by rw [yr_1]; rfl) ?_
    refine g_aload_n (by decide +kernel : decode prog_10_method_80_code 47 = .ok (.aload_n 0, 1)) rfl ?_
    refine g_getR (by decide +kernel : decode prog_10_method_80_code 48 = .ok (.getfield 28, 3)) fl_Md_28 rfl rfl ?_
    refine g_iconst (v := nI 3) (by decide +kernel : decode prog_10_method_80_code 51 = .ok (.iconst 3, 1)) (by decide) ?_
    refine g_iload_n (by decide +kernel : decode prog_10_method_80_code 52 = .ok (.iload_n 3, 1)) rfl ?_
    refine g_imulN (by decide +kernel : decode prog_10_method_80_code 53 = .ok (.imul, 1)) ?_
    refine g_aload_n (by decide +kernel : decode prog_10_method_80_code 54 = .ok (.aload_n 0, 1)) rfl ?_
    refine g_iload_n (by decide +kernel : decode prog_10_method_80_code 55 = .ok (.iload_n 1, 1)) rfl ?_
    refine g_iconst (v := nI 3) (by decide +kernel : decode prog_10_method_80_code 56 = .ok (.iconst 3, 1)) (by decide) ?_
    refine g_callVI [.int (nI o), .int (nI 3)] (by decide +kernel : decode prog_10_method_80_code 57 = .ok (.invokevirtual 169, 3)) lk_Md_169 (m_its (mS (s_row (s_row σ 7 (prF f o (σ 7) k)) 3 f) (yN 255 f (k + 1)) (yB 255 f b (k + 1))) o 3 (v := yN 255 f (k + 1) (19 + 6 * o + 3)) rfl (by omega)) rfl rfl rfl rfl (Nat.le_of_ble_eq_true rfl) (Nat.le_of_ble_eq_true rfl) (fun r57 s57 h57 => ?_)
    obtain ⟨rfl, rfl⟩ := h57
    refine g_iastore (a := 3 * k) (by decide +kernel : decode prog_10_method_80_code 60 = .ok (.iastore, 1)) rfl rfl (by omega) (by decide) ?_
    refine g_sto (mS_u7 _ _ _ _ _ _ _) ?_
    refine g_aload_n (by decide +kernel : decode prog_10_method_80_code 61 = .ok (.aload_n 0, 1)) rfl ?_
    refine g_getR (by decide +kernel : decode prog_10_method_80_code 62 = .ok (.getfield 28, 3)) fl_Md_28 rfl rfl ?_
    refine g_iconst (v := nI 3) (by decide +kernel : decode prog_10_method_80_code 65 = .ok (.iconst 3, 1)) (by decide) ?_
    refine g_iload_n (by decide +kernel : decode prog_10_method_80_code 66 = .ok (.iload_n 3, 1)) rfl ?_
    refine g_imulN (by decide +kernel : decode prog_10_method_80_code 67 = .ok (.imul, 1)) ?_
    refine g_iconst (v := nI 1) (by decide +kernel : decode prog_10_method_80_code 68 = .ok (.iconst 1, 1)) (by decide) ?_
    refine g_iaddN (by decide +kernel : decode prog_10_method_80_code 69 = .ok (.iadd, 1)) ?_
    refine g_aload_n (by decide +kernel : decode prog_10_method_80_code 70 = .ok (.aload_n 0, 1)) rfl ?_
    refine g_iload_n (by decide +kernel : decode prog_10_method_80_code 71 = .ok (.iload_n 1, 1)) rfl ?_
    refine g_iconst (v := nI 4) (by decide +kernel : decode prog_10_method_80_code 72 = .ok (.iconst 4, 1)) (by decide) ?_
    refine g_callVI [.int (nI o), .int (nI 4)] (by decide +kernel : decode prog_10_method_80_code 73 = .ok (.invokevirtual 169, 3)) lk_Md_169 (m_its (mS (s_row (s_row σ 7 (upd (prF f o (σ 7) k) (3 * k) (yN 255 f (k + 1) (19 + 6 * o + 3)))) 3 f) (yN 255 f (k + 1)) (yB 255 f b (k + 1))) o 4 (v := yN 255 f (k + 1) (19 + 6 * o + 4)) rfl (by omega)) rfl rfl rfl rfl (Nat.le_of_ble_eq_true rfl) (Nat.le_of_ble_eq_true rfl) (fun r73 s73 h73 => ?_)
    obtain ⟨rfl, rfl⟩ := h73
    refine g_iastore (a := 3 * k + 1) (by decide +kernel : decode prog_10_method_80_code 76 = .ok (.iastore, 1)) rfl rfl (by omega) (by decide) ?_
    refine g_sto (mS_u7 _ _ _ _ _ _ _) ?_
    refine g_aload_n (by decide +kernel : decode prog_10_method_80_code 77 = .ok (.aload_n 0, 1)) rfl ?_
    refine g_getR (by decide +kernel : decode prog_10_method_80_code 78 = .ok (.getfield 28, 3)) fl_Md_28 rfl rfl ?_
    refine g_iconst (v := nI 3) (by decide +kernel : decode prog_10_method_80_code 81 = .ok (.iconst 3, 1)) (by decide) ?_
    refine g_iload_n (by decide +kernel : decode prog_10_method_80_code 82 = .ok (.iload_n 3, 1)) rfl ?_
    refine g_imulN (by decide +kernel : decode prog_10_method_80_code 83 = .ok (.imul, 1)) ?_
    refine g_iconst (v := nI 2) (by decide +kernel : decode prog_10_method_80_code 84 = .ok (.iconst 2, 1)) (by decide) ?_
    refine g_iaddN (by decide +kernel : decode prog_10_method_80_code 85 = .ok (.iadd, 1)) ?_
    refine g_aload_n (by decide +kernel : decode prog_10_method_80_code 86 = .ok (.aload_n 0, 1)) rfl ?_
    refine g_iload_n (by decide +kernel : decode prog_10_method_80_code 87 = .ok (.iload_n 1, 1)) rfl ?_
    refine g_iconst (v := nI 5) (by decide +kernel : decode prog_10_method_80_code 88 = .ok (.iconst 5, 1)) (by decide) ?_
    refine g_callVI [.int (nI o), .int (nI 5)] (by decide +kernel : decode prog_10_method_80_code 89 = .ok (.invokevirtual 169, 3)) lk_Md_169 (m_its (mS (s_row (s_row σ 7 (upd (upd (prF f o (σ 7) k) (3 * k) (yN 255 f (k + 1) (19 + 6 * o + 3))) (3 * k + 1) (yN 255 f (k + 1) (19 + 6 * o + 4)))) 3 f) (yN 255 f (k + 1)) (yB 255 f b (k + 1))) o 5 (v := yN 255 f (k + 1) (19 + 6 * o + 5)) rfl (by omega)) rfl rfl rfl rfl (Nat.le_of_ble_eq_true rfl) (Nat.le_of_ble_eq_true rfl) (fun r89 s89 h89 => ?_)
    obtain ⟨rfl, rfl⟩ := h89
    refine g_iastore (a := 3 * k + 2) (by decide +kernel : decode prog_10_method_80_code 92 = .ok (.iastore, 1)) rfl rfl (by omega) (by decide) ?_
    refine g_sto (mS_u7 _ _ _ _ _ _ _) ?_
    refine g_iincN (n := 1) (L' := [some (.ref 0), some (.int (nI o)), some (.int (nI n)), some (.int (nI (k + 1)))]) (by decide +kernel : decode prog_10_method_80_code 93 = .ok (.iinc 3 1, 3)) rfl (by decide) (Nat.le_of_ble_eq_true rfl) rfl ?_
    refine g_goto (tgt := 35) (by decide +kernel : decode prog_10_method_80_code 96 = .ok (.goto (-61), 3)) (by decide) ?_
    exact ih (k + 1) (by omega) (by omega) hR
set_option maxRecDepth 20000 in
theorem p_prove (σ : Store) (f b : Row) (hI : Inv f) (x y : Int32) : Ct ΛM mt_Md_prove 4 [.ref 0, .int x, .int y] (mS σ f b) (mP (proveS σ f x y) (proveV f x y) f) := by
  refine Ct.of (by decide) (Nat.le_of_ble_eq_true rfl) (fun X hR => ?_)
  show G (ΛM, mt_Md_prove, 4) X (mS σ f b) [some (.ref 0), some (.int x), some (.int y), none] [] 0
  have hn8 := hI.n.2
  refine g_aload_n (by decide +kernel : decode prog_10_method_80_code 0 = .ok (.aload_n 0, 1)) rfl ?_
  refine g_iload_n (by decide +kernel : decode prog_10_method_80_code 1 = .ok (.iload_n 1, 1)) rfl ?_
  refine g_callVI [.int x] (by decide +kernel : decode prog_10_method_80_code 2 = .ok (.invokevirtual 172, 3)) lk_Md_172 (m_isOne (mS σ f b) x hI.n.1 (by omega)) rfl rfl rfl rfl (Nat.le_of_ble_eq_true rfl) (Nat.le_of_ble_eq_true rfl) (fun r2 s2 h2 => ?_)
  rcases h2 with ⟨rfl, ⟨rfl, o, ho2, rfl⟩ | ⟨rfl, n2⟩⟩
  · refine g_if_eqN (tgt := 20) (by decide +kernel : decode prog_10_method_80_code 5 = .ok (.ifCond .eq 15, 3)) (by decide) (by decide) (fun h => False.elim (by revert h; decide)) (fun _ => ?_)
    refine g_iload_n (by decide +kernel : decode prog_10_method_80_code 8 = .ok (.iload_n 2, 1)) rfl ?_
    refine g_i2l (by decide +kernel : decode prog_10_method_80_code 9 = .ok (.i2l, 1)) ?_
    refine g_lconst (v := lN 1) (by decide +kernel : decode prog_10_method_80_code 10 = .ok (.lconst 1, 1)) (by decide) ?_
    refine g_ldc2 (v := lN 10) (by decide +kernel : decode prog_10_method_80_code 11 = .ok (.ldc2_w 258, 3)) kc_Md_258 ?_
    refine g_callSI [.long (Int32.toInt64 y), .long (lN 1), .long (lN 10)] (by decide +kernel : decode prog_10_method_80_code 14 = .ok (.invokestatic 57, 3)) lk_Md_57 (m_isInN ΛM (mS σ f b) y 1 10) rfl rfl (Nat.le_of_ble_eq_true rfl) (Nat.le_of_ble_eq_true rfl) (fun r14 s14 h14 => ?_)
    rcases h14 with ⟨rfl, ⟨rfl, n, ha14, hb14, rfl⟩ | ⟨rfl, n14⟩⟩
    · refine g_if_neN (tgt := 22) (by decide +kernel : decode prog_10_method_80_code 17 = .ok (.ifCond .ne 5, 3)) (by decide) (by decide) (fun _ => ?_) (fun h => False.elim (by revert h; decide))
      refine g_aload_n (by decide +kernel : decode prog_10_method_80_code 22 = .ok (.aload_n 0, 1)) rfl ?_
      refine g_getR (by decide +kernel : decode prog_10_method_80_code 23 = .ok (.getfield 7, 3)) fl_Md_7 rfl rfl ?_
      refine g_aload_n (by decide +kernel : decode prog_10_method_80_code 26 = .ok (.aload_n 0, 1)) rfl ?_
      refine g_getR (by decide +kernel : decode prog_10_method_80_code 27 = .ok (.getfield 16, 3)) fl_Md_16 rfl rfl ?_
      refine g_callSV [.ref 1, .ref 3] (by decide +kernel : decode prog_10_method_80_code 30 = .ok (.invokestatic 141, 3)) lk_Md_141 (m_aside σ f b) rfl rfl (Nat.le_of_ble_eq_true rfl) (Nat.le_of_ble_eq_true rfl) (fun s30 h30 => ?_)
      obtain rfl := h30
      refine g_iconst (v := nI 0) (by decide +kernel : decode prog_10_method_80_code 33 = .ok (.iconst 0, 1)) (by decide) ?_
      refine g_istore_n (L' := [some (.ref 0), some (.int (nI o)), some (.int (nI n)), some (.int (nI 0))]) (by decide +kernel : decode prog_10_method_80_code 34 = .ok (.istore_n 3, 1)) (Nat.le_of_ble_eq_true rfl) rfl ?_
      refine g_sto (σ' := mS (s_row (s_row σ 7 (prF f o (σ 7) 0)) 3 f) f b) (by rw [show prF f o (σ 7) 0 = σ 7 from rfl, s_row_self]) ?_
      exact p_prove_lp hI ho2 (by omega) (n + 1) 0 (Nat.zero_le _) (by omega) (by simpa only [proveV, proveS, pz_of hI ho2, rg_of ha14 hb14] using hR)
    · refine g_if_neN (tgt := 22) (by decide +kernel : decode prog_10_method_80_code 17 = .ok (.ifCond .ne 5, 3)) (by decide) (by decide) (fun h => False.elim (by revert h; decide)) (fun _ => ?_)
      refine g_iconst (v := (-1)) (by decide +kernel : decode prog_10_method_80_code 20 = .ok (.iconst (-1), 1)) (by decide) ?_
      exact g_iret hR (by decide +kernel : decode prog_10_method_80_code 21 = .ok (.ireturn, 1)) rfl ⟨_, rfl, ⟨by simp only [proveV, pz_of hI ho2, rg_none n14], by simp only [proveS, pz_of hI ho2, rg_none n14]; exact Jk.self _ _ _⟩⟩
  · refine g_if_eqN (tgt := 20) (by decide +kernel : decode prog_10_method_80_code 5 = .ok (.ifCond .eq 15, 3)) (by decide) (by decide) (fun _ => ?_) (fun h => False.elim (by revert h; decide))
    refine g_iconst (v := (-1)) (by decide +kernel : decode prog_10_method_80_code 20 = .ok (.iconst (-1), 1)) (by decide) ?_
    exact g_iret hR (by decide +kernel : decode prog_10_method_80_code 21 = .ok (.ireturn, 1)) rfl ⟨_, rfl, ⟨by simp only [proveV, pz_none hI n2], by simp only [proveS, pz_none hI n2]; exact Jk.self _ _ _⟩⟩
/-- the first row that isn't right, and 1 more; 0: all are -/
def jdF (f : Row) (o : Nat) (R : Row) : Nat → Nat → Nat
  | 0, _ => 0
  | j + 1, k => if R (3 * k) = yN 255 f (k + 1) (19 + 6 * o + 3) ∧ R (3 * k + 1) = yN 255 f (k + 1) (19 + 6 * o + 4) ∧ R (3 * k + 2) = yN 255 f (k + 1) (19 + 6 * o + 5) then jdF f o R j (k + 1) else k + 1
theorem jd_yes {f R : Row} {o r k : Nat} (hk : k < r) (h : R (3 * k) = yN 255 f (k + 1) (19 + 6 * o + 3) ∧ R (3 * k + 1) = yN 255 f (k + 1) (19 + 6 * o + 4) ∧ R (3 * k + 2) = yN 255 f (k + 1) (19 + 6 * o + 5)) : jdF f o R (r - k) k = jdF f o R (r - (k + 1)) (k + 1) := by
  rw [show r - k = (r - (k + 1)) + 1 by omega]
  show (if _ then _ else _) = _
  rw [if_pos h]
theorem jd_no {f R : Row} {o r k : Nat} (hk : k < r) (h : ¬ (R (3 * k) = yN 255 f (k + 1) (19 + 6 * o + 3) ∧ R (3 * k + 1) = yN 255 f (k + 1) (19 + 6 * o + 4) ∧ R (3 * k + 2) = yN 255 f (k + 1) (19 + 6 * o + 5))) : jdF f o R (r - k) k = k + 1 := by
  rw [show r - k = (r - (k + 1)) + 1 by omega]
  show (if _ then _ else _) = _
  rw [if_neg h]
def judgeV (σ : Store) (f : Row) (x : Int32) : Int32 := match pz f x with
  | none => -1
  | some o => nI (jdF f o (σ 7) (tn (σ 0 14)) 0)
set_option maxRecDepth 20000 in
theorem p_judge_lp {X : CX} {σ : Store} {f b : Row} (hI : Inv f) {o : Nat} (ho : o < nn f) {r t : Nat} (hr : σ 0 14 = nI r) (hr10 : r ≤ 10) : ∀ (b9 k : Nat), k ≤ r → r - k < b9 → jdF f o (σ 7) (r - k) k = t → Rt (ΛM, mt_Md_judge, 4) (mP σ (nI t) f) X → G (ΛM, mt_Md_judge, 4) X (mS (s_row σ 3 f) (yN 255 f k) (yB 255 f b k)) [some (.ref 0), some (.int (nI o)), some (.int (nI k)), some (.int (nI 1))] [] 25 := by
  have hn8 := hI.n.2
  intro b9
  induction b9 with
  | zero => intro k hk hb ht hR; omega
  | succ b9 ih =>
  intro k hk hb ht hR
  refine g_iload_n (by decide +kernel : decode prog_10_method_84_code 25 = .ok (.iload_n 2, 1)) rfl ?_
  refine g_aload_n (by decide +kernel : decode prog_10_method_84_code 26 = .ok (.aload_n 0, 1)) rfl ?_
  refine g_getI (by decide +kernel : decode prog_10_method_84_code 27 = .ok (.getfield 148, 3)) fl_Md_148.get rfl rfl ?_
  refine g_top (w := nI r) (hr) ?_
  refine g_icmp_geN (tgt := 111) (by decide +kernel : decode prog_10_method_84_code 30 = .ok (.if_icmp .ge 81, 3)) (by decide) (by omega) (by omega) (fun h30 => ?_) (fun h30 => ?_)
  · refine g_aload_n (by decide +kernel : decode prog_10_method_84_code 111 = .ok (.aload_n 0, 1)) rfl ?_
    refine g_getR (by decide +kernel : decode prog_10_method_84_code 112 = .ok (.getfield 16, 3)) fl_Md_16 rfl rfl ?_
    refine g_aload_n (by decide +kernel : decode prog_10_method_84_code 115 = .ok (.aload_n 0, 1)) rfl ?_
    refine g_getR (by decide +kernel : decode prog_10_method_84_code 116 = .ok (.getfield 7, 3)) fl_Md_7 rfl rfl ?_
    refine g_callSV [.ref 3, .ref 1] (by decide +kernel : decode prog_10_method_84_code 119 = .ok (.invokestatic 141, 3)) lk_Md_141 (m_back σ f (yN 255 f k) (yB 255 f b k)) rfl rfl (Nat.le_of_ble_eq_true rfl) (Nat.le_of_ble_eq_true rfl) (fun s119 h119 => ?_)
    obtain rfl := h119
    refine g_iload_n (by decide +kernel : decode prog_10_method_84_code 122 = .ok (.iload_n 3, 1)) rfl ?_
    refine g_if_eqN (tgt := 130) (by decide +kernel : decode prog_10_method_84_code 123 = .ok (.ifCond .eq 7, 3)) (by decide) (by decide) (fun h => False.elim (by revert h; decide)) (fun _ => ?_)
    refine g_iconst (v := nI 0) (by decide +kernel : decode prog_10_method_84_code 126 = .ok (.iconst 0, 1)) (by decide) ?_
    refine g_goto (tgt := 131) (by decide +kernel : decode prog_10_method_84_code 127 = .ok (.goto 4, 3)) (by decide) ?_
    exact g_iret hR (by decide +kernel : decode prog_10_method_84_code 131 = .ok (.ireturn, 1)) rfl ⟨_, rfl, ⟨by rw [← ht, show r - k = 0 by omega]; rfl, ⟨_, _, rfl⟩⟩⟩
  · refine g_iload_n (by decide +kernel : decode prog_10_method_84_code 33 = .ok (.iload_n 3, 1)) rfl ?_
    refine g_if_eqN (tgt := 111) (by decide +kernel : decode prog_10_method_84_code 34 = .ok (.ifCond .eq 77, 3)) (by decide) (by decide) (fun h => False.elim (by revert h; decide)) (fun _ => ?_)
    refine g_aload_n (by decide +kernel : decode prog_10_method_84_code 37 = .ok (.aload_n 0, 1)) rfl ?_
    refine g_sipush (v := nI 255) (by decide +kernel : decode prog_10_method_84_code 38 = .ok (.sipush 255, 3)) (by decide) ?_
    refine g_callVV [.int (nI 255)] (by decide +kernel : decode prog_10_method_84_code 41 = .ok (.invokevirtual 202, 3)) lk_Md_202 ((m_goesBy (s_row σ 3 f) (yN 255 f k) (yB 255 f b k) (yN_inv hI k).1 255 (by omega))) rfl rfl rfl rfl (Nat.le_of_ble_eq_true rfl) (Nat.le_of_ble_eq_true rfl) (fun s41 h41 => ?_)
    obtain rfl := h41
    refine g_sto (σ' := mS (s_row σ 3 f) (yN 255 f (k + 1)) (yB 255 f b (k + 1))) (by rw [yr_1]; rfl) ?_
    refine g_aload_n (by decide +kernel : decode prog_10_method_84_code 44 = .ok (.aload_n 0, 1)) rfl ?_
    refine g_getR (by decide +kernel : decode prog_10_method_84_code 45 = .ok (.getfield 28, 3)) fl_Md_28 rfl rfl ?_
    refine g_iconst (v := nI 3) (by decide +kernel : decode prog_10_method_84_code 48 = .ok (.iconst 3, 1)) (by decide) ?_
    refine g_iload_n (by decide +kernel : decode prog_10_method_84_code 49 = .ok (.iload_n 2, 1)) rfl ?_
    refine g_imulN (by decide +kernel : decode prog_10_method_84_code 50 = .ok (.imul, 1)) ?_
    refine g_iaload (a := 3 * k) (by decide +kernel : decode prog_10_method_84_code 51 = .ok (.iaload, 1)) rfl rfl (by omega) (by decide) ?_
    refine g_top (w := σ 7 (3 * k)) (rfl) ?_
    refine g_aload_n (by decide +kernel : decode prog_10_method_84_code 52 = .ok (.aload_n 0, 1)) rfl ?_
    refine g_iload_n (by decide +kernel : decode prog_10_method_84_code 53 = .ok (.iload_n 1, 1)) rfl ?_
    refine g_iconst (v := nI 3) (by decide +kernel : decode prog_10_method_84_code 54 = .ok (.iconst 3, 1)) (by decide) ?_
    refine g_callVI [.int (nI o), .int (nI 3)] (by decide +kernel : decode prog_10_method_84_code 55 = .ok (.invokevirtual 169, 3)) lk_Md_169 (m_its (mS (s_row σ 3 f) (yN 255 f (k + 1)) (yB 255 f b (k + 1))) o 3 (v := yN 255 f (k + 1) (19 + 6 * o + 3)) rfl (by omega)) rfl rfl rfl rfl (Nat.le_of_ble_eq_true rfl) (Nat.le_of_ble_eq_true rfl) (fun r55 s55 h55 => ?_)
    obtain ⟨rfl, rfl⟩ := h55
    refine g_icmp_ne (tgt := 103) (by decide +kernel : decode prog_10_method_84_code 58 = .ok (.if_icmp .ne 45, 3)) (by decide) (fun h58 => ?_) (fun h58 => ?_)
    · refine g_iconst (v := nI 0) (by decide +kernel : decode prog_10_method_84_code 103 = .ok (.iconst 0, 1)) (by decide) ?_
      refine g_istore_n (L' := [some (.ref 0), some (.int (nI o)), some (.int (nI k)), some (.int (nI 0))]) (by decide +kernel : decode prog_10_method_84_code 104 = .ok (.istore_n 3, 1)) (Nat.le_of_ble_eq_true rfl) rfl ?_
      refine g_iincN (n := 1) (L' := [some (.ref 0), some (.int (nI o)), some (.int (nI (k + 1))), some (.int (nI 0))]) (by decide +kernel : decode prog_10_method_84_code 105 = .ok (.iinc 2 1, 3)) rfl (by decide) (Nat.le_of_ble_eq_true rfl) rfl ?_
      refine g_goto (tgt := 25) (by decide +kernel : decode prog_10_method_84_code 108 = .ok (.goto (-83), 3)) (by decide) ?_
      refine g_iload_n (by decide +kernel : decode prog_10_method_84_code 25 = .ok (.iload_n 2, 1)) rfl ?_
      refine g_aload_n (by decide +kernel : decode prog_10_method_84_code 26 = .ok (.aload_n 0, 1)) rfl ?_
      refine g_getI (by decide +kernel : decode prog_10_method_84_code 27 = .ok (.getfield 148, 3)) fl_Md_148.get rfl rfl ?_
      refine g_top (w := nI r) (hr) ?_
      refine g_icmp_geN (tgt := 111) (by decide +kernel : decode prog_10_method_84_code 30 = .ok (.if_icmp .ge 81, 3)) (by decide) (by omega) (by omega) (fun h30 => ?_) (fun h30 => ?_)
      · refine g_aload_n (by decide +kernel : decode prog_10_method_84_code 111 = .ok (.aload_n 0, 1)) rfl ?_
        refine g_getR (by decide +kernel : decode prog_10_method_84_code 112 = .ok (.getfield 16, 3)) fl_Md_16 rfl rfl ?_
        refine g_aload_n (by decide +kernel : decode prog_10_method_84_code 115 = .ok (.aload_n 0, 1)) rfl ?_
        refine g_getR (by decide +kernel : decode prog_10_method_84_code 116 = .ok (.getfield 7, 3)) fl_Md_7 rfl rfl ?_
        refine g_callSV [.ref 3, .ref 1] (by decide +kernel : decode prog_10_method_84_code 119 = .ok (.invokestatic 141, 3)) lk_Md_141 (m_back σ f (yN 255 f (k + 1)) (yB 255 f b (k + 1))) rfl rfl (Nat.le_of_ble_eq_true rfl) (Nat.le_of_ble_eq_true rfl) (fun s119 h119 => ?_)
        obtain rfl := h119
        refine g_iload_n (by decide +kernel : decode prog_10_method_84_code 122 = .ok (.iload_n 3, 1)) rfl ?_
        refine g_if_eqN (tgt := 130) (by decide +kernel : decode prog_10_method_84_code 123 = .ok (.ifCond .eq 7, 3)) (by decide) (by decide) (fun _ => ?_) (fun h => False.elim (by revert h; decide))
        refine g_iload_n (by decide +kernel : decode prog_10_method_84_code 130 = .ok (.iload_n 2, 1)) rfl ?_
        exact g_iret hR (by decide +kernel : decode prog_10_method_84_code 131 = .ok (.ireturn, 1)) rfl ⟨_, rfl, ⟨by rw [← ht, jd_no (by omega) (fun z => h58 z.1)], ⟨_, _, rfl⟩⟩⟩
      · refine g_iload_n (by decide +kernel : decode prog_10_method_84_code 33 = .ok (.iload_n 3, 1)) rfl ?_
        refine g_if_eqN (tgt := 111) (by decide +kernel : decode prog_10_method_84_code 34 = .ok (.ifCond .eq 77, 3)) (by decide) (by decide) (fun _ => ?_) (fun h => False.elim (by revert h; decide))
        refine g_aload_n (by decide +kernel : decode prog_10_method_84_code 111 = .ok (.aload_n 0, 1)) rfl ?_
        refine g_getR (by decide +kernel : decode prog_10_method_84_code 112 = .ok (.getfield 16, 3)) fl_Md_16 rfl rfl ?_
        refine g_aload_n (by decide +kernel : decode prog_10_method_84_code 115 = .ok (.aload_n 0, 1)) rfl ?_
        refine g_getR (by decide +kernel : decode prog_10_method_84_code 116 = .ok (.getfield 7, 3)) fl_Md_7 rfl rfl ?_
        refine g_callSV [.ref 3, .ref 1] (by decide +kernel : decode prog_10_method_84_code 119 = .ok (.invokestatic 141, 3)) lk_Md_141 (m_back σ f (yN 255 f (k + 1)) (yB 255 f b (k + 1))) rfl rfl (Nat.le_of_ble_eq_true rfl) (Nat.le_of_ble_eq_true rfl) (fun s119 h119 => ?_)
        obtain rfl := h119
        refine g_iload_n (by decide +kernel : decode prog_10_method_84_code 122 = .ok (.iload_n 3, 1)) rfl ?_
        refine g_if_eqN (tgt := 130) (by decide +kernel : decode prog_10_method_84_code 123 = .ok (.ifCond .eq 7, 3)) (by decide) (by decide) (fun _ => ?_) (fun h => False.elim (by revert h; decide))
        refine g_iload_n (by decide +kernel : decode prog_10_method_84_code 130 = .ok (.iload_n 2, 1)) rfl ?_
        exact g_iret hR (by decide +kernel : decode prog_10_method_84_code 131 = .ok (.ireturn, 1)) rfl ⟨_, rfl, ⟨by rw [← ht, jd_no (by omega) (fun z => h58 z.1)], ⟨_, _, rfl⟩⟩⟩
    · refine g_aload_n (by decide +kernel : decode prog_10_method_84_code 61 = .ok (.aload_n 0, 1)) rfl ?_
      refine g_getR (by decide +kernel : decode prog_10_method_84_code 62 = .ok (.getfield 28, 3)) fl_Md_28 rfl rfl ?_
      refine g_iconst (v := nI 3) (by decide +kernel : decode prog_10_method_84_code 65 = .ok (.iconst 3, 1)) (by decide) ?_
      refine g_iload_n (by decide +kernel : decode prog_10_method_84_code 66 = .ok (.iload_n 2, 1)) rfl ?_
      refine g_imulN (by decide +kernel : decode prog_10_method_84_code 67 = .ok (.imul, 1)) ?_
      refine g_iconst (v := nI 1) (by decide +kernel : decode prog_10_method_84_code 68 = .ok (.iconst 1, 1)) (by decide) ?_
      refine g_iaddN (by decide +kernel : decode prog_10_method_84_code 69 = .ok (.iadd, 1)) ?_
      refine g_iaload (a := 3 * k + 1) (by decide +kernel : decode prog_10_method_84_code 70 = .ok (.iaload, 1)) rfl rfl (by omega) (by decide) ?_
      refine g_top (w := σ 7 (3 * k + 1)) (rfl) ?_
      refine g_aload_n (by decide +kernel : decode prog_10_method_84_code 71 = .ok (.aload_n 0, 1)) rfl ?_
      refine g_iload_n (by decide +kernel : decode prog_10_method_84_code 72 = .ok (.iload_n 1, 1)) rfl ?_
      refine g_iconst (v := nI 4) (by decide +kernel : decode prog_10_method_84_code 73 = .ok (.iconst 4, 1)) (by decide) ?_
      refine g_callVI [.int (nI o), .int (nI 4)] (by decide +kernel : decode prog_10_method_84_code 74 = .ok (.invokevirtual 169, 3)) lk_Md_169 (m_its (mS (s_row σ 3 f) (yN 255 f (k + 1)) (yB 255 f b (k + 1))) o 4 (v := yN 255 f (k + 1) (19 + 6 * o + 4)) rfl (by omega)) rfl rfl rfl rfl (Nat.le_of_ble_eq_true rfl) (Nat.le_of_ble_eq_true rfl) (fun r74 s74 h74 => ?_)
      obtain ⟨rfl, rfl⟩ := h74
      refine g_icmp_ne (tgt := 103) (by decide +kernel : decode prog_10_method_84_code 77 = .ok (.if_icmp .ne 26, 3)) (by decide) (fun h77 => ?_) (fun h77 => ?_)
      · refine g_iconst (v := nI 0) (by decide +kernel : decode prog_10_method_84_code 103 = .ok (.iconst 0, 1)) (by decide) ?_
        refine g_istore_n (L' := [some (.ref 0), some (.int (nI o)), some (.int (nI k)), some (.int (nI 0))]) (by decide +kernel : decode prog_10_method_84_code 104 = .ok (.istore_n 3, 1)) (Nat.le_of_ble_eq_true rfl) rfl ?_
        refine g_iincN (n := 1) (L' := [some (.ref 0), some (.int (nI o)), some (.int (nI (k + 1))), some (.int (nI 0))]) (by decide +kernel : decode prog_10_method_84_code 105 = .ok (.iinc 2 1, 3)) rfl (by decide) (Nat.le_of_ble_eq_true rfl) rfl ?_
        refine g_goto (tgt := 25) (by decide +kernel : decode prog_10_method_84_code 108 = .ok (.goto (-83), 3)) (by decide) ?_
        refine g_iload_n (by decide +kernel : decode prog_10_method_84_code 25 = .ok (.iload_n 2, 1)) rfl ?_
        refine g_aload_n (by decide +kernel : decode prog_10_method_84_code 26 = .ok (.aload_n 0, 1)) rfl ?_
        refine g_getI (by decide +kernel : decode prog_10_method_84_code 27 = .ok (.getfield 148, 3)) fl_Md_148.get rfl rfl ?_
        refine g_top (w := nI r) (hr) ?_
        refine g_icmp_geN (tgt := 111) (by decide +kernel : decode prog_10_method_84_code 30 = .ok (.if_icmp .ge 81, 3)) (by decide) (by omega) (by omega) (fun h30 => ?_) (fun h30 => ?_)
        · refine g_aload_n (by decide +kernel : decode prog_10_method_84_code 111 = .ok (.aload_n 0, 1)) rfl ?_
          refine g_getR (by decide +kernel : decode prog_10_method_84_code 112 = .ok (.getfield 16, 3)) fl_Md_16 rfl rfl ?_
          refine g_aload_n (by decide +kernel : decode prog_10_method_84_code 115 = .ok (.aload_n 0, 1)) rfl ?_
          refine g_getR (by decide +kernel : decode prog_10_method_84_code 116 = .ok (.getfield 7, 3)) fl_Md_7 rfl rfl ?_
          refine g_callSV [.ref 3, .ref 1] (by decide +kernel : decode prog_10_method_84_code 119 = .ok (.invokestatic 141, 3)) lk_Md_141 (m_back σ f (yN 255 f (k + 1)) (yB 255 f b (k + 1))) rfl rfl (Nat.le_of_ble_eq_true rfl) (Nat.le_of_ble_eq_true rfl) (fun s119 h119 => ?_)
          obtain rfl := h119
          refine g_iload_n (by decide +kernel : decode prog_10_method_84_code 122 = .ok (.iload_n 3, 1)) rfl ?_
          refine g_if_eqN (tgt := 130) (by decide +kernel : decode prog_10_method_84_code 123 = .ok (.ifCond .eq 7, 3)) (by decide) (by decide) (fun _ => ?_) (fun h => False.elim (by revert h; decide))
          refine g_iload_n (by decide +kernel : decode prog_10_method_84_code 130 = .ok (.iload_n 2, 1)) rfl ?_
          exact g_iret hR (by decide +kernel : decode prog_10_method_84_code 131 = .ok (.ireturn, 1)) rfl ⟨_, rfl, ⟨by rw [← ht, jd_no (by omega) (fun z => h77 z.2.1)], ⟨_, _, rfl⟩⟩⟩
        · refine g_iload_n (by decide +kernel : decode prog_10_method_84_code 33 = .ok (.iload_n 3, 1)) rfl ?_
          refine g_if_eqN (tgt := 111) (by decide +kernel : decode prog_10_method_84_code 34 = .ok (.ifCond .eq 77, 3)) (by decide) (by decide) (fun _ => ?_) (fun h => False.elim (by revert h; decide))
          refine g_aload_n (by decide +kernel : decode prog_10_method_84_code 111 = .ok (.aload_n 0, 1)) rfl ?_
          refine g_getR (by decide +kernel : decode prog_10_method_84_code 112 = .ok (.getfield 16, 3)) fl_Md_16 rfl rfl ?_
          refine g_aload_n (by decide +kernel : decode prog_10_method_84_code 115 = .ok (.aload_n 0, 1)) rfl ?_
          refine g_getR (by decide +kernel : decode prog_10_method_84_code 116 = .ok (.getfield 7, 3)) fl_Md_7 rfl rfl ?_
          refine g_callSV [.ref 3, .ref 1] (by decide +kernel : decode prog_10_method_84_code 119 = .ok (.invokestatic 141, 3)) lk_Md_141 (m_back σ f (yN 255 f (k + 1)) (yB 255 f b (k + 1))) rfl rfl (Nat.le_of_ble_eq_true rfl) (Nat.le_of_ble_eq_true rfl) (fun s119 h119 => ?_)
          obtain rfl := h119
          refine g_iload_n (by decide +kernel : decode prog_10_method_84_code 122 = .ok (.iload_n 3, 1)) rfl ?_
          refine g_if_eqN (tgt := 130) (by decide +kernel : decode prog_10_method_84_code 123 = .ok (.ifCond .eq 7, 3)) (by decide) (by decide) (fun _ => ?_) (fun h => False.elim (by revert h; decide))
          refine g_iload_n (by decide +kernel : decode prog_10_method_84_code 130 = .ok (.iload_n 2, 1)) rfl ?_
          exact g_iret hR (by decide +kernel : decode prog_10_method_84_code 131 = .ok (.ireturn, 1)) rfl ⟨_, rfl, ⟨by rw [← ht, jd_no (by omega) (fun z => h77 z.2.1)], ⟨_, _, rfl⟩⟩⟩
      · refine g_aload_n (by decide +kernel : decode prog_10_method_84_code 80 = .ok (.aload_n 0, 1)) rfl ?_
        refine g_getR (by decide +kernel : decode prog_10_method_84_code 81 = .ok (.getfield 28, 3)) fl_Md_28 rfl rfl ?_
        refine g_iconst (v := nI 3) (by decide +kernel : decode prog_10_method_84_code 84 = .ok (.iconst 3, 1)) (by decide) ?_
        refine g_iload_n (by decide +kernel : decode prog_10_method_84_code 85 = .ok (.iload_n 2, 1)) rfl ?_
        refine g_imulN (by decide +kernel : decode prog_10_method_84_code 86 = .ok (.imul, 1)) ?_
        refine g_iconst (v := nI 2) (by decide +kernel : decode prog_10_method_84_code 87 = .ok (.iconst 2, 1)) (by decide) ?_
        refine g_iaddN (by decide +kernel : decode prog_10_method_84_code 88 = .ok (.iadd, 1)) ?_
        refine g_iaload (a := 3 * k + 2) (by decide +kernel : decode prog_10_method_84_code 89 = .ok (.iaload, 1)) rfl rfl (by omega) (by decide) ?_
        refine g_top (w := σ 7 (3 * k + 2)) (rfl) ?_
        refine g_aload_n (by decide +kernel : decode prog_10_method_84_code 90 = .ok (.aload_n 0, 1)) rfl ?_
        refine g_iload_n (by decide +kernel : decode prog_10_method_84_code 91 = .ok (.iload_n 1, 1)) rfl ?_
        refine g_iconst (v := nI 5) (by decide +kernel : decode prog_10_method_84_code 92 = .ok (.iconst 5, 1)) (by decide) ?_
        refine g_callVI [.int (nI o), .int (nI 5)] (by decide +kernel : decode prog_10_method_84_code 93 = .ok (.invokevirtual 169, 3)) lk_Md_169 (m_its (mS (s_row σ 3 f) (yN 255 f (k + 1)) (yB 255 f b (k + 1))) o 5 (v := yN 255 f (k + 1) (19 + 6 * o + 5)) rfl (by omega)) rfl rfl rfl rfl (Nat.le_of_ble_eq_true rfl) (Nat.le_of_ble_eq_true rfl) (fun r93 s93 h93 => ?_)
        obtain ⟨rfl, rfl⟩ := h93
        refine g_icmp_ne (tgt := 103) (by decide +kernel : decode prog_10_method_84_code 96 = .ok (.if_icmp .ne 7, 3)) (by decide) (fun h96 => ?_) (fun h96 => ?_)
        · refine g_iconst (v := nI 0) (by decide +kernel : decode prog_10_method_84_code 103 = .ok (.iconst 0, 1)) (by decide) ?_
          refine g_istore_n (L' := [some (.ref 0), some (.int (nI o)), some (.int (nI k)), some (.int (nI 0))]) (by decide +kernel : decode prog_10_method_84_code 104 = .ok (.istore_n 3, 1)) (Nat.le_of_ble_eq_true rfl) rfl ?_
          refine g_iincN (n := 1) (L' := [some (.ref 0), some (.int (nI o)), some (.int (nI (k + 1))), some (.int (nI 0))]) (by decide +kernel : decode prog_10_method_84_code 105 = .ok (.iinc 2 1, 3)) rfl (by decide) (Nat.le_of_ble_eq_true rfl) rfl ?_
          refine g_goto (tgt := 25) (by decide +kernel : decode prog_10_method_84_code 108 = .ok (.goto (-83), 3)) (by decide) ?_
          refine g_iload_n (by decide +kernel : decode prog_10_method_84_code 25 = .ok (.iload_n 2, 1)) rfl ?_
          refine g_aload_n (by decide +kernel : decode prog_10_method_84_code 26 = .ok (.aload_n 0, 1)) rfl ?_
          refine g_getI (by decide +kernel : decode prog_10_method_84_code 27 = .ok (.getfield 148, 3)) fl_Md_148.get rfl rfl ?_
          refine g_top (w := nI r) (hr) ?_
          refine g_icmp_geN (tgt := 111) (by decide +kernel : decode prog_10_method_84_code 30 = .ok (.if_icmp .ge 81, 3)) (by decide) (by omega) (by omega) (fun h30 => ?_) (fun h30 => ?_)
          · refine g_aload_n (by decide +kernel : decode prog_10_method_84_code 111 = .ok (.aload_n 0, 1)) rfl ?_
            refine g_getR (by decide +kernel : decode prog_10_method_84_code 112 = .ok (.getfield 16, 3)) fl_Md_16 rfl rfl ?_
            refine g_aload_n (by decide +kernel : decode prog_10_method_84_code 115 = .ok (.aload_n 0, 1)) rfl ?_
            refine g_getR (by decide +kernel : decode prog_10_method_84_code 116 = .ok (.getfield 7, 3)) fl_Md_7 rfl rfl ?_
            refine g_callSV [.ref 3, .ref 1] (by decide +kernel : decode prog_10_method_84_code 119 = .ok (.invokestatic 141, 3)) lk_Md_141 (m_back σ f (yN 255 f (k + 1)) (yB 255 f b (k + 1))) rfl rfl (Nat.le_of_ble_eq_true rfl) (Nat.le_of_ble_eq_true rfl) (fun s119 h119 => ?_)
            obtain rfl := h119
            refine g_iload_n (by decide +kernel : decode prog_10_method_84_code 122 = .ok (.iload_n 3, 1)) rfl ?_
            refine g_if_eqN (tgt := 130) (by decide +kernel : decode prog_10_method_84_code 123 = .ok (.ifCond .eq 7, 3)) (by decide) (by decide) (fun _ => ?_) (fun h => False.elim (by revert h; decide))
            refine g_iload_n (by decide +kernel : decode prog_10_method_84_code 130 = .ok (.iload_n 2, 1)) rfl ?_
            exact g_iret hR (by decide +kernel : decode prog_10_method_84_code 131 = .ok (.ireturn, 1)) rfl ⟨_, rfl, ⟨by rw [← ht, jd_no (by omega) (fun z => h96 z.2.2)], ⟨_, _, rfl⟩⟩⟩
          · refine g_iload_n (by decide +kernel : decode prog_10_method_84_code 33 = .ok (.iload_n 3, 1)) rfl ?_
            refine g_if_eqN (tgt := 111) (by decide +kernel : decode prog_10_method_84_code 34 = .ok (.ifCond .eq 77, 3)) (by decide) (by decide) (fun _ => ?_) (fun h => False.elim (by revert h; decide))
            refine g_aload_n (by decide +kernel : decode prog_10_method_84_code 111 = .ok (.aload_n 0, 1)) rfl ?_
            refine g_getR (by decide +kernel : decode prog_10_method_84_code 112 = .ok (.getfield 16, 3)) fl_Md_16 rfl rfl ?_
            refine g_aload_n (by decide +kernel : decode prog_10_method_84_code 115 = .ok (.aload_n 0, 1)) rfl ?_
            refine g_getR (by decide +kernel : decode prog_10_method_84_code 116 = .ok (.getfield 7, 3)) fl_Md_7 rfl rfl ?_
            refine g_callSV [.ref 3, .ref 1] (by decide +kernel : decode prog_10_method_84_code 119 = .ok (.invokestatic 141, 3)) lk_Md_141 (m_back σ f (yN 255 f (k + 1)) (yB 255 f b (k + 1))) rfl rfl (Nat.le_of_ble_eq_true rfl) (Nat.le_of_ble_eq_true rfl) (fun s119 h119 => ?_)
            obtain rfl := h119
            refine g_iload_n (by decide +kernel : decode prog_10_method_84_code 122 = .ok (.iload_n 3, 1)) rfl ?_
            refine g_if_eqN (tgt := 130) (by decide +kernel : decode prog_10_method_84_code 123 = .ok (.ifCond .eq 7, 3)) (by decide) (by decide) (fun _ => ?_) (fun h => False.elim (by revert h; decide))
            refine g_iload_n (by decide +kernel : decode prog_10_method_84_code 130 = .ok (.iload_n 2, 1)) rfl ?_
            exact g_iret hR (by decide +kernel : decode prog_10_method_84_code 131 = .ok (.ireturn, 1)) rfl ⟨_, rfl, ⟨by rw [← ht, jd_no (by omega) (fun z => h96 z.2.2)], ⟨_, _, rfl⟩⟩⟩
        · refine g_iconst (v := nI 1) (by decide +kernel : decode prog_10_method_84_code 99 = .ok (.iconst 1, 1)) (by decide) ?_
          refine g_goto (tgt := 104) (by decide +kernel : decode prog_10_method_84_code 100 = .ok (.goto 4, 3)) (by decide) ?_
          refine g_istore_n (L' := [some (.ref 0), some (.int (nI o)), some (.int (nI k)), some (.int (nI 1))]) (by decide +kernel : decode prog_10_method_84_code 104 = .ok (.istore_n 3, 1)) (Nat.le_of_ble_eq_true rfl) rfl ?_
          refine g_iincN (n := 1) (L' := [some (.ref 0), some (.int (nI o)), some (.int (nI (k + 1))), some (.int (nI 1))]) (by decide +kernel : decode prog_10_method_84_code 105 = .ok (.iinc 2 1, 3)) rfl (by decide) (Nat.le_of_ble_eq_true rfl) rfl ?_
          refine g_goto (tgt := 25) (by decide +kernel : decode prog_10_method_84_code 108 = .ok (.goto (-83), 3)) (by decide) ?_
          exact ih (k + 1) (by omega) (by omega) (by rw [← ht]; exact (jd_yes (by omega) ⟨h58, h77, h96⟩).symm) hR
set_option maxRecDepth 20000 in
theorem p_judge (σ : Store) (f b : Row) (hI : Inv f) (x : Int32) {r : Nat} (hr : σ 0 14 = nI r) (hr10 : r ≤ 10) : Ct ΛM mt_Md_judge 4 [.ref 0, .int x] (mS σ f b) (mP σ (judgeV σ f x) f) := by
  refine Ct.of (by decide) (Nat.le_of_ble_eq_true rfl) (fun X hR => ?_)
  show G (ΛM, mt_Md_judge, 4) X (mS σ f b) [some (.ref 0), some (.int x), none, none] [] 0
  have hn8 := hI.n.2
  have htn : tn (σ 0 14) = r := by rw [hr, tn_nI (by omega)]
  refine g_aload_n (by decide +kernel : decode prog_10_method_84_code 0 = .ok (.aload_n 0, 1)) rfl ?_
  refine g_iload_n (by decide +kernel : decode prog_10_method_84_code 1 = .ok (.iload_n 1, 1)) rfl ?_
  refine g_callVI [.int x] (by decide +kernel : decode prog_10_method_84_code 2 = .ok (.invokevirtual 172, 3)) lk_Md_172 (m_isOne (mS σ f b) x hI.n.1 (by omega)) rfl rfl rfl rfl (Nat.le_of_ble_eq_true rfl) (Nat.le_of_ble_eq_true rfl) (fun r2 s2 h2 => ?_)
  rcases h2 with ⟨rfl, ⟨rfl, o, ho2, rfl⟩ | ⟨rfl, n2⟩⟩
  · refine g_if_neN (tgt := 10) (by decide +kernel : decode prog_10_method_84_code 5 = .ok (.ifCond .ne 5, 3)) (by decide) (by decide) (fun _ => ?_) (fun h => False.elim (by revert h; decide))
    refine g_aload_n (by decide +kernel : decode prog_10_method_84_code 10 = .ok (.aload_n 0, 1)) rfl ?_
    refine g_getR (by decide +kernel : decode prog_10_method_84_code 11 = .ok (.getfield 7, 3)) fl_Md_7 rfl rfl ?_
    refine g_aload_n (by decide +kernel : decode prog_10_method_84_code 14 = .ok (.aload_n 0, 1)) rfl ?_
    refine g_getR (by decide +kernel : decode prog_10_method_84_code 15 = .ok (.getfield 16, 3)) fl_Md_16 rfl rfl ?_
    refine g_callSV [.ref 1, .ref 3] (by decide +kernel : decode prog_10_method_84_code 18 = .ok (.invokestatic 141, 3)) lk_Md_141 (m_aside σ f b) rfl rfl (Nat.le_of_ble_eq_true rfl) (Nat.le_of_ble_eq_true rfl) (fun s18 h18 => ?_)
    obtain rfl := h18
    refine g_iconst (v := nI 0) (by decide +kernel : decode prog_10_method_84_code 21 = .ok (.iconst 0, 1)) (by decide) ?_
    refine g_istore_n (L' := [some (.ref 0), some (.int (nI o)), some (.int (nI 0)), none]) (by decide +kernel : decode prog_10_method_84_code 22 = .ok (.istore_n 2, 1)) (Nat.le_of_ble_eq_true rfl) rfl ?_
    refine g_iconst (v := nI 1) (by decide +kernel : decode prog_10_method_84_code 23 = .ok (.iconst 1, 1)) (by decide) ?_
    refine g_istore_n (L' := [some (.ref 0), some (.int (nI o)), some (.int (nI 0)), some (.int (nI 1))]) (by decide +kernel : decode prog_10_method_84_code 24 = .ok (.istore_n 3, 1)) (Nat.le_of_ble_eq_true rfl) rfl ?_
    exact p_judge_lp (t := jdF f o (σ 7) r 0) hI ho2 hr hr10 (r + 1) 0 (Nat.zero_le _) (by omega) rfl (by simpa only [judgeV, htn, pz_of hI ho2] using hR)
  · refine g_if_neN (tgt := 10) (by decide +kernel : decode prog_10_method_84_code 5 = .ok (.ifCond .ne 5, 3)) (by decide) (by decide) (fun h => False.elim (by revert h; decide)) (fun _ => ?_)
    refine g_iconst (v := (-1)) (by decide +kernel : decode prog_10_method_84_code 8 = .ok (.iconst (-1), 1)) (by decide) ?_
    exact g_iret hR (by decide +kernel : decode prog_10_method_84_code 9 = .ok (.ireturn, 1)) rfl ⟨_, rfl, ⟨by simp only [judgeV, pz_none hI n2], Jk.self _ _ _⟩⟩
