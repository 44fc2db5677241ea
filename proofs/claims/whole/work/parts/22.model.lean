/-! THE REFERENCE: sheets -/
def ShI (σ : Store) : Prop := ∀ t, t < 4 → (σ 8 t = -1 ∨ Rng (σ 8 t) 3) ∧ Rng (σ 9 t) 40
theorem i64_m1 (x : Int32) : ((-1 : Int64) ≤ x.toInt64 ∧ x.toInt64 ≤ lN 3) ↔ (x = -1 ∨ ∃ j, j ≤ 3 ∧ x = nI j) := by
  have hx : x.toInt64.toInt = x.toInt := by simp
  have hm : (-1 : Int64).toInt = -1 := by decide
  have hm2 : (-1 : Int32).toInt = -1 := by decide
  rw [Int64.le_iff_toInt_le, Int64.le_iff_toInt_le, hx, hm, lN_toInt (by decide)]
  constructor
  · rintro ⟨h1, h2⟩
    by_cases h : x.toInt = -1
    · left; apply Int32.toInt_inj.mp; rw [h, hm2]
    · right
      refine ⟨x.toInt.toNat, by omega, ?_⟩
      apply Int32.toInt_inj.mp
      rw [nI_toInt (by omega)]; omega
  · rintro (rfl | ⟨j, h1, rfl⟩)
    · rw [hm2]; omega
    · rw [nI_toInt (by omega)]; omega
theorem m_isInM (Λ : Lay) (σ : Store) (x : Int32) : Ct Λ mt_Md_isIn 0 [.long x.toInt64, .long (-1), .long (lN 3)] σ (PB σ (x = -1 ∨ ∃ j, j ≤ 3 ∧ x = nI j)) := PB.of (m_isIn Λ σ _ _ _) (i64_m1 x)
/-- all of a sheet's places are 0 -/
def zr (R : Row) (t : Nat) : Nat → Row
  | 0 => R
  | k + 1 => upd (zr R t k) (40 * t + k) (nI 0)
def layS (σ : Store) (t : Nat) (s n : Int32) : Store := s_row (s_up (s_up σ 8 t s) 9 t n) 10 (zr (σ 10) t 40)
def isSort (y : Int32) : Option Int32 := if y = -1 ∨ y = nI 0 ∨ y = nI 1 ∨ y = nI 2 ∨ y = nI 3 then some y else none
theorem isSort_m : isSort (-1) = some (-1) := rfl
theorem isSort_n {j : Nat} (h : j ≤ 3) : isSort (nI j) = some (nI j) := by
  rcases (show j = 0 ∨ j = 1 ∨ j = 2 ∨ j = 3 by omega) with rfl | rfl | rfl | rfl <;> rfl
theorem isSort_none {y : Int32} (h : ¬ (y = -1 ∨ ∃ j, j ≤ 3 ∧ y = nI j)) : isSort y = none := by
  unfold isSort
  rw [if_neg]
  rintro (h1 | h1 | h1 | h1 | h1)
  · exact h (Or.inl h1)
  · exact h (Or.inr ⟨0, by decide, h1⟩)
  · exact h (Or.inr ⟨1, by decide, h1⟩)
  · exact h (Or.inr ⟨2, by decide, h1⟩)
  · exact h (Or.inr ⟨3, by decide, h1⟩)
def sheetV (x y z : Int32) : Int32 := match rg 0 3 x with
  | none => -1
  | some _ => match isSort y with
    | none => -1
    | some s => if s < 0 then nI 1 else if z ≤ nI 40 then (if 0 ≤ z then nI 1 else -14) else -1
def sheetS (σ : Store) (x y z : Int32) : Store := match rg 0 3 x with
  | none => σ
  | some t => match isSort y with
    | none => σ
    | some s => if s < 0 then layS σ t s (nI 0) else if z ≤ nI 40 then (if 0 ≤ z then layS σ t s z else σ) else σ
theorem mS_u10 (σ : Store) (R f b : Row) (i : Nat) (v : Int32) : s_up (mS (s_row σ 10 R) f b) 10 i v = mS (s_row σ 10 (upd R i v)) f b := by
  funext k
  unfold mS s_up s_row
  by_cases h : k = 10
  · subst h; rfl
  · simp [h]
theorem m_isSheet_ (Λ : Lay) : True := trivial
set_option maxRecDepth 20000 in
theorem m_isSheet (Λ : Lay) (σ : Store) (x : Int32) : Ct Λ mt_Md_isSheet 1 [.int x] σ (PB σ (∃ j, 0 ≤ j ∧ j ≤ 3 ∧ x = nI j)) := by
  refine Ct.of (by decide) (Nat.le_of_ble_eq_true rfl) (fun X hR => ?_)
  show G (Λ, mt_Md_isSheet, 1) X σ [some (.int x)] [] 0
  refine g_iload_n (by decide +kernel : decode prog_10_method_85_code 0 = .ok (.iload_n 0, 1)) rfl ?_
  refine g_i2l (by decide +kernel : decode prog_10_method_85_code 1 = .ok (.i2l, 1)) ?_
  refine g_lconst (v := lN 0) (by decide +kernel : decode prog_10_method_85_code 2 = .ok (.lconst 0, 1)) (by decide) ?_
  refine g_ldc2 (v := lN 3) (by decide +kernel : decode prog_10_method_85_code 3 = .ok (.ldc2_w 151, 3)) kc_Md_151 ?_
  refine g_callSI [.long (Int32.toInt64 x), .long (lN 0), .long (lN 3)] (by decide +kernel : decode prog_10_method_85_code 6 = .ok (.invokestatic 57, 3)) lk_Md_57 (m_isInN Λ σ x 0 3) rfl rfl (Nat.le_of_ble_eq_true rfl) (Nat.le_of_ble_eq_true rfl) (fun r6 s6 h6 => ?_)
  obtain ⟨hs6, h6⟩ := h6
  rw [hs6]
  exact g_zret hR (by decide +kernel : decode prog_10_method_85_code 9 = .ok (.ireturn, 1)) rfl (by rcases h6 with ⟨h, _⟩ | ⟨h, _⟩ <;> rw [h] <;> decide) ⟨_, rfl, ⟨rfl, h6⟩⟩
set_option maxRecDepth 20000 in
theorem m_isShelf (Λ : Lay) (σ : Store) (x : Int32) : Ct Λ mt_Md_isShelf 1 [.int x] σ (PB σ (∃ j, 0 ≤ j ∧ j ≤ 3 ∧ x = nI j)) := by
  refine Ct.of (by decide) (Nat.le_of_ble_eq_true rfl) (fun X hR => ?_)
  show G (Λ, mt_Md_isShelf, 1) X σ [some (.int x)] [] 0
  refine g_iload_n (by decide +kernel : decode prog_10_method_86_code 0 = .ok (.iload_n 0, 1)) rfl ?_
  refine g_i2l (by decide +kernel : decode prog_10_method_86_code 1 = .ok (.i2l, 1)) ?_
  refine g_lconst (v := lN 0) (by decide +kernel : decode prog_10_method_86_code 2 = .ok (.lconst 0, 1)) (by decide) ?_
  refine g_ldc2 (v := lN 3) (by decide +kernel : decode prog_10_method_86_code 3 = .ok (.ldc2_w 151, 3)) kc_Md_151 ?_
  refine g_callSI [.long (Int32.toInt64 x), .long (lN 0), .long (lN 3)] (by decide +kernel : decode prog_10_method_86_code 6 = .ok (.invokestatic 57, 3)) lk_Md_57 (m_isInN Λ σ x 0 3) rfl rfl (Nat.le_of_ble_eq_true rfl) (Nat.le_of_ble_eq_true rfl) (fun r6 s6 h6 => ?_)
  obtain ⟨hs6, h6⟩ := h6
  rw [hs6]
  exact g_zret hR (by decide +kernel : decode prog_10_method_86_code 9 = .ok (.ireturn, 1)) rfl (by rcases h6 with ⟨h, _⟩ | ⟨h, _⟩ <;> rw [h] <;> decide) ⟨_, rfl, ⟨rfl, h6⟩⟩
set_option maxRecDepth 20000 in
theorem p_sheet_lp {X : CX} {τ : Store} {f b : Row} {t : Nat} (ht : t ≤ 3) {y z : Int32} {Post : Option Value → Store → Prop} (hp : Post (some (.int (nI 1))) (mS (s_row τ 10 (zr (τ 10) t 40)) f b)) : ∀ (b9 k : Nat), k ≤ 40 → 40 - k < b9 → Rt (ΛM, mt_Md_sheet, 2) Post X → G (ΛM, mt_Md_sheet, 2) X (mS (s_row τ 10 (zr (τ 10) t k)) f b) [some (.ref 0), some (.int (nI t)), some (.int y), some (.int z), some (.int (nI k))] [] 69 := by
  intro b9
  induction b9 with
  | zero => intro k hk hb hR; omega
  | succ b9 ih =>
  intro k hk hb hR
  refine g_iload (by decide +kernel : decode prog_10_method_87_code 69 = .ok (.iload 4, 2)) rfl ?_
  refine g_bipush (v := nI 40) (by decide +kernel : decode prog_10_method_87_code 71 = .ok (.bipush 40, 2)) (by decide) ?_
  refine g_icmp_geN (tgt := 95) (by decide +kernel : decode prog_10_method_87_code 73 = .ok (.if_icmp .ge 22, 3)) (by decide) (by omega) (by decide) (fun h73 => ?_) (fun h73 => ?_)
  · refine g_iconst (v := nI 1) (by decide +kernel : decode prog_10_method_87_code 95 = .ok (.iconst 1, 1)) (by decide) ?_
    exact g_iret hR (by decide +kernel : decode prog_10_method_87_code 96 = .ok (.ireturn, 1)) rfl (by rw [show k = 40 by omega]; exact hp)
  · refine g_aload_n (by decide +kernel : decode prog_10_method_87_code 76 = .ok (.aload_n 0, 1)) rfl ?_
    refine g_getR (by decide +kernel : decode prog_10_method_87_code 77 = .ok (.getfield 37, 3)) fl_Md_37 rfl rfl ?_
    refine g_bipush (v := nI 40) (by decide +kernel : decode prog_10_method_87_code 80 = .ok (.bipush 40, 2)) (by decide) ?_
    refine g_iload_n (by decide +kernel : decode prog_10_method_87_code 82 = .ok (.iload_n 1, 1)) rfl ?_
    refine g_imulN (by decide +kernel : decode prog_10_method_87_code 83 = .ok (.imul, 1)) ?_
    refine g_iload (by decide +kernel : decode prog_10_method_87_code 84 = .ok (.iload 4, 2)) rfl ?_
    refine g_iaddN (by decide +kernel : decode prog_10_method_87_code 86 = .ok (.iadd, 1)) ?_
    refine g_iconst (v := nI 0) (by decide +kernel : decode prog_10_method_87_code 87 = .ok (.iconst 0, 1)) (by decide) ?_
    refine g_iastore (a := 40 * t + k) (by decide +kernel : decode prog_10_method_87_code 88 = .ok (.iastore, 1)) rfl rfl (by omega) (by decide) ?_
    refine g_sto (mS_u10 _ _ _ _ _ _) ?_
    refine g_iincN (n := 1) (L' := [some (.ref 0), some (.int (nI t)), some (.int y), some (.int z), some (.int (nI (k + 1)))]) (by decide +kernel : decode prog_10_method_87_code 89 = .ok (.iinc 4 1, 3)) rfl (by decide) (Nat.le_of_ble_eq_true rfl) rfl ?_
    refine g_goto (tgt := 69) (by decide +kernel : decode prog_10_method_87_code 92 = .ok (.goto (-23), 3)) (by decide) ?_
    exact ih (k + 1) (by omega) (by omega) hR
set_option maxRecDepth 20000 in
theorem q_sheet (σ : Store) (f b : Row) (x y z : Int32) : Ct ΛM mt_Md_sheet 2 [.ref 0, .int x, .int y, .int z] (mS σ f b) (PF (sheetV x y z) (mS (sheetS σ x y z) f b)) := by
  refine Ct.of (by decide) (Nat.le_of_ble_eq_true rfl) (fun X hR => ?_)
  show G (ΛM, mt_Md_sheet, 2) X (mS σ f b) [some (.ref 0), some (.int x), some (.int y), some (.int z), none] [] 0
  refine g_iload_n (by decide +kernel : decode prog_10_method_87_code 0 = .ok (.iload_n 1, 1)) rfl ?_
  refine g_callSI [.int x] (by decide +kernel : decode prog_10_method_87_code 1 = .ok (.invokestatic 240, 3)) lk_Md_240 (m_isSheet ΛM (mS σ f b) x) rfl rfl (Nat.le_of_ble_eq_true rfl) (Nat.le_of_ble_eq_true rfl) (fun r1 s1 h1 => ?_)
  rcases h1 with ⟨rfl, ⟨rfl, t, ha1, hb1, rfl⟩ | ⟨rfl, n1⟩⟩
  · refine g_if_eqN (tgt := 31) (by decide +kernel : decode prog_10_method_87_code 4 = .ok (.ifCond .eq 27, 3)) (by decide) (by decide) (fun h => False.elim (by revert h; decide)) (fun _ => ?_)
    refine g_iload_n (by decide +kernel : decode prog_10_method_87_code 7 = .ok (.iload_n 2, 1)) rfl ?_
    refine g_i2l (by decide +kernel : decode prog_10_method_87_code 8 = .ok (.i2l, 1)) ?_
    refine g_ldc2 (v := -1) (by decide +kernel : decode prog_10_method_87_code 9 = .ok (.ldc2_w 246, 3)) kc_Md_246 ?_
    refine g_ldc2 (v := lN 3) (by decide +kernel : decode prog_10_method_87_code 12 = .ok (.ldc2_w 151, 3)) kc_Md_151 ?_
    refine g_callSI [.long (Int32.toInt64 y), .long (-1), .long (lN 3)] (by decide +kernel : decode prog_10_method_87_code 15 = .ok (.invokestatic 57, 3)) lk_Md_57 (m_isInM ΛM (mS σ f b) y) rfl rfl (Nat.le_of_ble_eq_true rfl) (Nat.le_of_ble_eq_true rfl) (fun r15 s15 h15 => ?_)
    rcases h15 with ⟨rfl, ⟨rfl, rfl | ⟨s, hs, rfl⟩⟩ | ⟨rfl, hno⟩⟩
    · refine g_if_eqN (tgt := 31) (by decide +kernel : decode prog_10_method_87_code 18 = .ok (.ifCond .eq 13, 3)) (by decide) (by decide) (fun h => False.elim (by revert h; decide)) (fun _ => ?_)
      refine g_iload_n (by decide +kernel : decode prog_10_method_87_code 21 = .ok (.iload_n 2, 1)) rfl ?_
      refine g_if_lt (tgt := 33) (by decide +kernel : decode prog_10_method_87_code 22 = .ok (.ifCond .lt 11, 3)) (by decide) (fun _ => ?_) (fun h => False.elim (by revert h; decide))
      refine g_iload_n (by decide +kernel : decode prog_10_method_87_code 33 = .ok (.iload_n 2, 1)) rfl ?_
      refine g_if_lt (tgt := 44) (by decide +kernel : decode prog_10_method_87_code 34 = .ok (.ifCond .lt 10, 3)) (by decide) (fun _ => ?_) (fun h => False.elim (by revert h; decide))
      refine g_aload_n (by decide +kernel : decode prog_10_method_87_code 44 = .ok (.aload_n 0, 1)) rfl ?_
      refine g_getR (by decide +kernel : decode prog_10_method_87_code 45 = .ok (.getfield 31, 3)) fl_Md_31 rfl rfl ?_
      refine g_iload_n (by decide +kernel : decode prog_10_method_87_code 48 = .ok (.iload_n 1, 1)) rfl ?_
      refine g_iload_n (by decide +kernel : decode prog_10_method_87_code 49 = .ok (.iload_n 2, 1)) rfl ?_
      refine g_iastore (a := t) (by decide +kernel : decode prog_10_method_87_code 50 = .ok (.iastore, 1)) rfl rfl (by omega) (by decide) ?_
      refine g_sto (mS_uk _ _ _ _ _ (by decide) (by decide)) ?_
      refine g_aload_n (by decide +kernel : decode prog_10_method_87_code 51 = .ok (.aload_n 0, 1)) rfl ?_
      refine g_getR (by decide +kernel : decode prog_10_method_87_code 52 = .ok (.getfield 34, 3)) fl_Md_34 rfl rfl ?_
      refine g_iload_n (by decide +kernel : decode prog_10_method_87_code 55 = .ok (.iload_n 1, 1)) rfl ?_
      refine g_iload_n (by decide +kernel : decode prog_10_method_87_code 56 = .ok (.iload_n 2, 1)) rfl ?_
      refine g_if_ge (tgt := 64) (by decide +kernel : decode prog_10_method_87_code 57 = .ok (.ifCond .ge 7, 3)) (by decide) (fun h => False.elim (by revert h; decide)) (fun _ => ?_)
      refine g_iconst (v := nI 0) (by decide +kernel : decode prog_10_method_87_code 60 = .ok (.iconst 0, 1)) (by decide) ?_
      refine g_goto (tgt := 65) (by decide +kernel : decode prog_10_method_87_code 61 = .ok (.goto 4, 3)) (by decide) ?_
      refine g_iastore (a := t) (by decide +kernel : decode prog_10_method_87_code 65 = .ok (.iastore, 1)) rfl rfl (by omega) (by decide) ?_
      refine g_sto (mS_uk _ _ _ _ _ (by decide) (by decide)) ?_
      refine g_iconst (v := nI 0) (by decide +kernel : decode prog_10_method_87_code 66 = .ok (.iconst 0, 1)) (by decide) ?_
      refine g_istore (L' := [some (.ref 0), some (.int (nI t)), some (.int (-1)), some (.int z), some (.int (nI 0))]) (by decide +kernel : decode prog_10_method_87_code 67 = .ok (.istore 4, 2)) (Nat.le_of_ble_eq_true rfl) rfl ?_
      refine g_sto (σ' := mS (s_row (s_up (s_up σ 8 t (-1)) 9 t (nI 0)) 10 (zr ((s_up (s_up σ 8 t (-1)) 9 t (nI 0)) 10) t 0)) f b) (by rw [show zr ((s_up (s_up σ 8 t (-1)) 9 t (nI 0)) 10) t 0 = (s_up (s_up σ 8 t (-1)) 9 t (nI 0)) 10 from rfl, s_row_self]) ?_
      exact p_sheet_lp (by omega) ⟨_, rfl, by simp only [sheetV, sheetS, rg_of ha1 hb1, isSort_m]; exact ⟨by rw [if_pos (by decide)], by rw [if_pos (by decide)]; rfl⟩⟩ 41 0 (by omega) (by omega) hR
    · refine g_if_eqN (tgt := 31) (by decide +kernel : decode prog_10_method_87_code 18 = .ok (.ifCond .eq 13, 3)) (by decide) (by decide) (fun h => False.elim (by revert h; decide)) (fun _ => ?_)
      refine g_iload_n (by decide +kernel : decode prog_10_method_87_code 21 = .ok (.iload_n 2, 1)) rfl ?_
      refine g_if_ltN (by decide +kernel : decode prog_10_method_87_code 22 = .ok (.ifCond .lt 11, 3)) (by decide) (by omega) ?_
      refine g_iload_n (by decide +kernel : decode prog_10_method_87_code 25 = .ok (.iload_n 3, 1)) rfl ?_
      refine g_bipush (v := nI 40) (by decide +kernel : decode prog_10_method_87_code 26 = .ok (.bipush 40, 2)) (by decide) ?_
      refine g_icmp_le (tgt := 33) (by decide +kernel : decode prog_10_method_87_code 28 = .ok (.if_icmp .le 5, 3)) (by decide) (fun h28 => ?_) (fun h28 => ?_)
      · refine g_iload_n (by decide +kernel : decode prog_10_method_87_code 33 = .ok (.iload_n 2, 1)) rfl ?_
        refine g_if_ltN (by decide +kernel : decode prog_10_method_87_code 34 = .ok (.ifCond .lt 10, 3)) (by decide) (by omega) ?_
        refine g_iload_n (by decide +kernel : decode prog_10_method_87_code 37 = .ok (.iload_n 3, 1)) rfl ?_
        refine g_if_ge (tgt := 44) (by decide +kernel : decode prog_10_method_87_code 38 = .ok (.ifCond .ge 6, 3)) (by decide) (fun h38 => ?_) (fun h38 => ?_)
        · refine g_aload_n (by decide +kernel : decode prog_10_method_87_code 44 = .ok (.aload_n 0, 1)) rfl ?_
          refine g_getR (by decide +kernel : decode prog_10_method_87_code 45 = .ok (.getfield 31, 3)) fl_Md_31 rfl rfl ?_
          refine g_iload_n (by decide +kernel : decode prog_10_method_87_code 48 = .ok (.iload_n 1, 1)) rfl ?_
          refine g_iload_n (by decide +kernel : decode prog_10_method_87_code 49 = .ok (.iload_n 2, 1)) rfl ?_
          refine g_iastore (a := t) (by decide +kernel : decode prog_10_method_87_code 50 = .ok (.iastore, 1)) rfl rfl (by omega) (by decide) ?_
          refine g_sto (mS_uk _ _ _ _ _ (by decide) (by decide)) ?_
          refine g_aload_n (by decide +kernel : decode prog_10_method_87_code 51 = .ok (.aload_n 0, 1)) rfl ?_
          refine g_getR (by decide +kernel : decode prog_10_method_87_code 52 = .ok (.getfield 34, 3)) fl_Md_34 rfl rfl ?_
          refine g_iload_n (by decide +kernel : decode prog_10_method_87_code 55 = .ok (.iload_n 1, 1)) rfl ?_
          refine g_iload_n (by decide +kernel : decode prog_10_method_87_code 56 = .ok (.iload_n 2, 1)) rfl ?_
          refine g_if_geN (tgt := 64) (by decide +kernel : decode prog_10_method_87_code 57 = .ok (.ifCond .ge 7, 3)) (by decide) (by omega) ?_
          refine g_iload_n (by decide +kernel : decode prog_10_method_87_code 64 = .ok (.iload_n 3, 1)) rfl ?_
          refine g_iastore (a := t) (by decide +kernel : decode prog_10_method_87_code 65 = .ok (.iastore, 1)) rfl rfl (by omega) (by decide) ?_
          refine g_sto (mS_uk _ _ _ _ _ (by decide) (by decide)) ?_
          refine g_iconst (v := nI 0) (by decide +kernel : decode prog_10_method_87_code 66 = .ok (.iconst 0, 1)) (by decide) ?_
          refine g_istore (L' := [some (.ref 0), some (.int (nI t)), some (.int (nI s)), some (.int z), some (.int (nI 0))]) (by decide +kernel : decode prog_10_method_87_code 67 = .ok (.istore 4, 2)) (Nat.le_of_ble_eq_true rfl) rfl ?_
          refine g_sto (σ' := mS (s_row (s_up (s_up σ 8 t (nI s)) 9 t z) 10 (zr ((s_up (s_up σ 8 t (nI s)) 9 t z) 10) t 0)) f b) (by rw [show zr ((s_up (s_up σ 8 t (nI s)) 9 t z) 10) t 0 = (s_up (s_up σ 8 t (nI s)) 9 t z) 10 from rfl, s_row_self]) ?_
          exact p_sheet_lp (by omega) ⟨_, rfl, by simp only [sheetV, sheetS, rg_of ha1 hb1, isSort_n hs]; exact ⟨by rw [if_neg (nI_pos (by omega)), if_pos h28, if_pos h38], by rw [if_neg (nI_pos (by omega)), if_pos h28, if_pos h38]; rfl⟩⟩ 41 0 (by omega) (by omega) hR
        · refine g_bipush (v := (-14)) (by decide +kernel : decode prog_10_method_87_code 41 = .ok (.bipush (-14), 2)) (by decide) ?_
          exact g_iret hR (by decide +kernel : decode prog_10_method_87_code 43 = .ok (.ireturn, 1)) rfl ⟨_, rfl, by simp only [sheetV, sheetS, rg_of ha1 hb1, isSort_n hs]; rw [if_neg (nI_pos (by omega)), if_neg (nI_pos (by omega)), if_pos h28, if_pos h28, if_neg h38, if_neg h38]; exact ⟨rfl, rfl⟩⟩
      · refine g_iconst (v := (-1)) (by decide +kernel : decode prog_10_method_87_code 31 = .ok (.iconst (-1), 1)) (by decide) ?_
        exact g_iret hR (by decide +kernel : decode prog_10_method_87_code 32 = .ok (.ireturn, 1)) rfl ⟨_, rfl, by simp only [sheetV, sheetS, rg_of ha1 hb1, isSort_n hs]; rw [if_neg (nI_pos (by omega)), if_neg (nI_pos (by omega)), if_neg h28, if_neg h28]; exact ⟨rfl, rfl⟩⟩
    · refine g_if_eqN (tgt := 31) (by decide +kernel : decode prog_10_method_87_code 18 = .ok (.ifCond .eq 13, 3)) (by decide) (by decide) (fun _ => ?_) (fun h => False.elim (by revert h; decide))
      refine g_iconst (v := (-1)) (by decide +kernel : decode prog_10_method_87_code 31 = .ok (.iconst (-1), 1)) (by decide) ?_
      exact g_iret hR (by decide +kernel : decode prog_10_method_87_code 32 = .ok (.ireturn, 1)) rfl ⟨_, rfl, by simp only [sheetV, sheetS, rg_of ha1 hb1, isSort_none hno]; exact ⟨trivial, trivial⟩⟩
  · refine g_if_eqN (tgt := 31) (by decide +kernel : decode prog_10_method_87_code 4 = .ok (.ifCond .eq 27, 3)) (by decide) (by decide) (fun _ => ?_) (fun h => False.elim (by revert h; decide))
    refine g_iconst (v := (-1)) (by decide +kernel : decode prog_10_method_87_code 31 = .ok (.iconst (-1), 1)) (by decide) ?_
    exact g_iret hR (by decide +kernel : decode prog_10_method_87_code 32 = .ok (.ireturn, 1)) rfl ⟨_, rfl, by simp only [sheetV, sheetS, rg_none n1]; exact ⟨trivial, trivial⟩⟩
def nar (s z : Int32) : Int32 := if s = nI 0 then z.toInt8.toInt32 else if s = nI 1 then z.toInt16.toInt32 else z
def putV (σ : Store) (x y : Int32) : Int32 := match rg 0 3 x with
  | none => -1
  | some t => if σ 8 t < 0 then -11 else match ri (tn (σ 9 t)) y with
    | none => -12
    | some _ => nI 1
def putS (σ : Store) (x y z : Int32) : Store := match rg 0 3 x with
  | none => σ
  | some t => if σ 8 t < 0 then σ else match ri (tn (σ 9 t)) y with
    | none => σ
    | some i => s_up σ 10 (40 * t + i) (nar (σ 8 t) z)
def itemV (σ : Store) (x y z : Int32) : Int32 := match rg 0 3 x with
  | none => -1
  | some t => match rg 0 3 y with
    | none => -1
    | some s => if σ 8 t < 0 then -11 else if σ 8 t = nI s then (match ri (tn (σ 9 t)) z with
      | none => -12
      | some i => σ 10 (40 * t + i)) else -13
theorem neg8 {x : Int32} (h : x = -1) {α : Type} {a b : α} : (if x < 0 then a else b) = a := if_pos (by rw [h]; decide)
theorem pos8 {x : Int32} {s : Nat} (hs : s ≤ 3) (h : x = nI s) {α : Type} {a b : α} : (if x < 0 then a else b) = b := if_neg (by rw [h]; exact nI_pos (by omega))
set_option maxRecDepth 20000 in
theorem q_put (σ : Store) (f b : Row) (hS : ShI σ) (x y z : Int32) : Ct ΛM mt_Md_put 2 [.ref 0, .int x, .int y, .int z] (mS σ f b) (PF (putV σ x y) (mS (putS σ x y z) f b)) := by
  refine Ct.of (by decide) (Nat.le_of_ble_eq_true rfl) (fun X hR => ?_)
  show G (ΛM, mt_Md_put, 2) X (mS σ f b) [some (.ref 0), some (.int x), some (.int y), some (.int z)] [] 0
  refine g_iload_n (by decide +kernel : decode prog_10_method_88_code 0 = .ok (.iload_n 1, 1)) rfl ?_
  refine g_callSI [.int x] (by decide +kernel : decode prog_10_method_88_code 1 = .ok (.invokestatic 240, 3)) lk_Md_240 (m_isSheet ΛM (mS σ f b) x) rfl rfl (Nat.le_of_ble_eq_true rfl) (Nat.le_of_ble_eq_true rfl) (fun r1 s1 h1 => ?_)
  rcases h1 with ⟨rfl, ⟨rfl, t, ha1, hb1, rfl⟩ | ⟨rfl, n1⟩⟩
  · refine g_if_neN (tgt := 9) (by decide +kernel : decode prog_10_method_88_code 4 = .ok (.ifCond .ne 5, 3)) (by decide) (by decide) (fun _ => ?_) (fun h => False.elim (by revert h; decide))
    obtain ⟨n, hn, e9⟩ := (hS t (by omega)).2
    have htn : tn (σ 9 t) = n := by rw [e9, tn_nI (by omega)]
    rcases (hS t (by omega)).1 with e8 | ⟨s, hs, e8⟩
    · refine g_aload_n (by decide +kernel : decode prog_10_method_88_code 9 = .ok (.aload_n 0, 1)) rfl ?_
      refine g_getR (by decide +kernel : decode prog_10_method_88_code 10 = .ok (.getfield 31, 3)) fl_Md_31 rfl rfl ?_
      refine g_iload_n (by decide +kernel : decode prog_10_method_88_code 13 = .ok (.iload_n 1, 1)) rfl ?_
      refine g_iaload (a := t) (by decide +kernel : decode prog_10_method_88_code 14 = .ok (.iaload, 1)) rfl rfl (by omega) (by decide) ?_
      refine g_top (w := (-1)) (e8) ?_
      refine g_if_ge (tgt := 21) (by decide +kernel : decode prog_10_method_88_code 15 = .ok (.ifCond .ge 6, 3)) (by decide) (fun h => False.elim (by revert h; decide)) (fun _ => ?_)
      refine g_bipush (v := (-11)) (by decide +kernel : decode prog_10_method_88_code 18 = .ok (.bipush (-11), 2)) (by decide) ?_
      exact g_iret hR (by decide +kernel : decode prog_10_method_88_code 20 = .ok (.ireturn, 1)) rfl ⟨_, rfl, by simp only [putV, putS, rg_of ha1 hb1, neg8 e8, htn]; exact ⟨trivial, trivial⟩⟩
    · refine g_aload_n (by decide +kernel : decode prog_10_method_88_code 9 = .ok (.aload_n 0, 1)) rfl ?_
      refine g_getR (by decide +kernel : decode prog_10_method_88_code 10 = .ok (.getfield 31, 3)) fl_Md_31 rfl rfl ?_
      refine g_iload_n (by decide +kernel : decode prog_10_method_88_code 13 = .ok (.iload_n 1, 1)) rfl ?_
      refine g_iaload (a := t) (by decide +kernel : decode prog_10_method_88_code 14 = .ok (.iaload, 1)) rfl rfl (by omega) (by decide) ?_
      refine g_top (w := nI s) (e8) ?_
      refine g_if_geN (tgt := 21) (by decide +kernel : decode prog_10_method_88_code 15 = .ok (.ifCond .ge 6, 3)) (by decide) (by omega) ?_
      refine g_iload_n (by decide +kernel : decode prog_10_method_88_code 21 = .ok (.iload_n 2, 1)) rfl ?_
      refine g_i2l (by decide +kernel : decode prog_10_method_88_code 22 = .ok (.i2l, 1)) ?_
      refine g_lconst (v := lN 0) (by decide +kernel : decode prog_10_method_88_code 23 = .ok (.lconst 0, 1)) (by decide) ?_
      refine g_aload_n (by decide +kernel : decode prog_10_method_88_code 24 = .ok (.aload_n 0, 1)) rfl ?_
      refine g_getR (by decide +kernel : decode prog_10_method_88_code 25 = .ok (.getfield 34, 3)) fl_Md_34 rfl rfl ?_
      refine g_iload_n (by decide +kernel : decode prog_10_method_88_code 28 = .ok (.iload_n 1, 1)) rfl ?_
      refine g_iaload (a := t) (by decide +kernel : decode prog_10_method_88_code 29 = .ok (.iaload, 1)) rfl rfl (by omega) (by decide) ?_
      refine g_top (w := nI n) (e9) ?_
      refine g_iconst (v := nI 1) (by decide +kernel : decode prog_10_method_88_code 30 = .ok (.iconst 1, 1)) (by decide) ?_
      refine g_isub (by decide +kernel : decode prog_10_method_88_code 31 = .ok (.isub, 1)) ?_
      refine g_i2l (by decide +kernel : decode prog_10_method_88_code 32 = .ok (.i2l, 1)) ?_
      refine g_callSI [.long (Int32.toInt64 y), .long (lN 0), .long (Int32.toInt64 ((nI n) - (nI 1)))] (by decide +kernel : decode prog_10_method_88_code 33 = .ok (.invokestatic 57, 3)) lk_Md_57 (m_isInR ΛM (mS σ f b) y (r := n) (by omega)) rfl rfl (Nat.le_of_ble_eq_true rfl) (Nat.le_of_ble_eq_true rfl) (fun r33 s33 h33 => ?_)
      rcases h33 with ⟨rfl, ⟨rfl, i, hi33, rfl⟩ | ⟨rfl, n33⟩⟩
      · refine g_if_neN (tgt := 42) (by decide +kernel : decode prog_10_method_88_code 36 = .ok (.ifCond .ne 6, 3)) (by decide) (by decide) (fun _ => ?_) (fun h => False.elim (by revert h; decide))
        refine g_aload_n (by decide +kernel : decode prog_10_method_88_code 42 = .ok (.aload_n 0, 1)) rfl ?_
        refine g_getR (by decide +kernel : decode prog_10_method_88_code 43 = .ok (.getfield 37, 3)) fl_Md_37 rfl rfl ?_
        refine g_bipush (v := nI 40) (by decide +kernel : decode prog_10_method_88_code 46 = .ok (.bipush 40, 2)) (by decide) ?_
        refine g_iload_n (by decide +kernel : decode prog_10_method_88_code 48 = .ok (.iload_n 1, 1)) rfl ?_
        refine g_imulN (by decide +kernel : decode prog_10_method_88_code 49 = .ok (.imul, 1)) ?_
        refine g_iload_n (by decide +kernel : decode prog_10_method_88_code 50 = .ok (.iload_n 2, 1)) rfl ?_
        refine g_iaddN (by decide +kernel : decode prog_10_method_88_code 51 = .ok (.iadd, 1)) ?_
        refine g_aload_n (by decide +kernel : decode prog_10_method_88_code 52 = .ok (.aload_n 0, 1)) rfl ?_
        refine g_getR (by decide +kernel : decode prog_10_method_88_code 53 = .ok (.getfield 31, 3)) fl_Md_31 rfl rfl ?_
        refine g_iload_n (by decide +kernel : decode prog_10_method_88_code 56 = .ok (.iload_n 1, 1)) rfl ?_
        refine g_iaload (a := t) (by decide +kernel : decode prog_10_method_88_code 57 = .ok (.iaload, 1)) rfl rfl (by omega) (by decide) ?_
        refine g_top (w := nI s) (e8) ?_
        have J58 : G (ΛM, mt_Md_put, 2) X (mS σ f b) [some (.ref 0), some (.int (nI t)), some (.int (nI i)), some (.int z)] [.int (nar (σ 8 t) z), .int (nI (40 * t + i)), .ref 10] 82 := by
          refine g_iastore (a := 40 * t + i) (by decide +kernel : decode prog_10_method_88_code 82 = .ok (.iastore, 1)) rfl rfl (by omega) (by decide) ?_
          refine g_sto (mS_uk _ _ _ _ _ (by decide) (by decide)) ?_
          refine g_iconst (v := nI 1) (by decide +kernel : decode prog_10_method_88_code 83 = .ok (.iconst 1, 1)) (by decide) ?_
          exact g_iret hR (by decide +kernel : decode prog_10_method_88_code 84 = .ok (.ireturn, 1)) rfl ⟨_, rfl, by simp only [putV, putS, rg_of ha1 hb1, pos8 hs e8, ri_of (show n < 2 ^ 31 by omega) hi33, htn]; exact ⟨trivial, trivial⟩⟩
        refine g_if_neN (tgt := 66) (by decide +kernel : decode prog_10_method_88_code 58 = .ok (.ifCond .ne 8, 3)) (by decide) (by omega) (fun h58 => ?_) (fun h58 => ?_)
        · refine g_aload_n (by decide +kernel : decode prog_10_method_88_code 66 = .ok (.aload_n 0, 1)) rfl ?_
          refine g_getR (by decide +kernel : decode prog_10_method_88_code 67 = .ok (.getfield 31, 3)) fl_Md_31 rfl rfl ?_
          refine g_iload_n (by decide +kernel : decode prog_10_method_88_code 70 = .ok (.iload_n 1, 1)) rfl ?_
          refine g_iaload (a := t) (by decide +kernel : decode prog_10_method_88_code 71 = .ok (.iaload, 1)) rfl rfl (by omega) (by decide) ?_
          refine g_top (w := nI s) (e8) ?_
          refine g_iconst (v := nI 1) (by decide +kernel : decode prog_10_method_88_code 72 = .ok (.iconst 1, 1)) (by decide) ?_
          refine g_icmp_neN (tgt := 81) (by decide +kernel : decode prog_10_method_88_code 73 = .ok (.if_icmp .ne 8, 3)) (by decide) (by omega) (by decide) (fun h73 => ?_) (fun h73 => ?_)
          · refine g_iload_n (by decide +kernel : decode prog_10_method_88_code 81 = .ok (.iload_n 3, 1)) rfl ?_
            exact g_top (by unfold nar; rw [e8]; rw [if_neg (fun q => h58 ((nI_eq (by omega) (by decide)).mp q)), if_neg (fun q => h73 ((nI_eq (by omega) (by decide)).mp q))]) J58
          · refine g_iload_n (by decide +kernel : decode prog_10_method_88_code 76 = .ok (.iload_n 3, 1)) rfl ?_
            refine g_i2s (by decide +kernel : decode prog_10_method_88_code 77 = .ok (.i2s, 1)) ?_
            refine g_goto (tgt := 82) (by decide +kernel : decode prog_10_method_88_code 78 = .ok (.goto 4, 3)) (by decide) ?_
            exact g_top (by unfold nar; rw [e8]; rw [if_neg (fun q => h58 ((nI_eq (by omega) (by decide)).mp q)), if_pos (by rw [h73])]) J58
        · refine g_iload_n (by decide +kernel : decode prog_10_method_88_code 61 = .ok (.iload_n 3, 1)) rfl ?_
          refine g_i2b (by decide +kernel : decode prog_10_method_88_code 62 = .ok (.i2b, 1)) ?_
          refine g_goto (tgt := 82) (by decide +kernel : decode prog_10_method_88_code 63 = .ok (.goto 19, 3)) (by decide) ?_
          exact g_top (by unfold nar; rw [e8]; rw [if_pos (by rw [h58])]) J58
      · refine g_if_neN (tgt := 42) (by decide +kernel : decode prog_10_method_88_code 36 = .ok (.ifCond .ne 6, 3)) (by decide) (by decide) (fun h => False.elim (by revert h; decide)) (fun _ => ?_)
        refine g_bipush (v := (-12)) (by decide +kernel : decode prog_10_method_88_code 39 = .ok (.bipush (-12), 2)) (by decide) ?_
        exact g_iret hR (by decide +kernel : decode prog_10_method_88_code 41 = .ok (.ireturn, 1)) rfl ⟨_, rfl, by simp only [putV, putS, rg_of ha1 hb1, pos8 hs e8, ri_none (show n < 2 ^ 31 by omega) n33, htn]; exact ⟨trivial, trivial⟩⟩
  · refine g_if_neN (tgt := 9) (by decide +kernel : decode prog_10_method_88_code 4 = .ok (.ifCond .ne 5, 3)) (by decide) (by decide) (fun h => False.elim (by revert h; decide)) (fun _ => ?_)
    refine g_iconst (v := (-1)) (by decide +kernel : decode prog_10_method_88_code 7 = .ok (.iconst (-1), 1)) (by decide) ?_
    exact g_iret hR (by decide +kernel : decode prog_10_method_88_code 8 = .ok (.ireturn, 1)) rfl ⟨_, rfl, by simp only [putV, putS, rg_none n1]; exact ⟨trivial, trivial⟩⟩
def lackF (s q : Int32) : Int32 := if 0 ≤ s then (if s = q then nI 0 else -13) else -11
set_option maxRecDepth 20000 in
theorem m_lacks (σ : Store) (f b : Row) (t : Nat) (ht : t < 4) (x : Int32) : Ct ΛM mt_Md_lacks 0 [.ref 0, .int (nI t), .int x] (mS σ f b) (PF (lackF (σ 8 t) x) (mS σ f b)) := by
  refine Ct.of (by decide) (Nat.le_of_ble_eq_true rfl) (fun X hR => ?_)
  show G (ΛM, mt_Md_lacks, 0) X (mS σ f b) [some (.ref 0), some (.int (nI t)), some (.int x)] [] 0
  refine g_aload_n (by decide +kernel : decode prog_10_method_89_code 0 = .ok (.aload_n 0, 1)) rfl ?_
  refine g_getR (by decide +kernel : decode prog_10_method_89_code 1 = .ok (.getfield 31, 3)) fl_Md_31 rfl rfl ?_
  refine g_iload_n (by decide +kernel : decode prog_10_method_89_code 4 = .ok (.iload_n 1, 1)) rfl ?_
  refine g_iaload (a := t) (by decide +kernel : decode prog_10_method_89_code 5 = .ok (.iaload, 1)) rfl rfl (by omega) (by decide) ?_
  refine g_top (w := σ 8 t) (rfl) ?_
  refine g_if_ge (tgt := 14) (by decide +kernel : decode prog_10_method_89_code 6 = .ok (.ifCond .ge 8, 3)) (by decide) (fun h6 => ?_) (fun h6 => ?_)
  · refine g_aload_n (by decide +kernel : decode prog_10_method_89_code 14 = .ok (.aload_n 0, 1)) rfl ?_
    refine g_getR (by decide +kernel : decode prog_10_method_89_code 15 = .ok (.getfield 31, 3)) fl_Md_31 rfl rfl ?_
    refine g_iload_n (by decide +kernel : decode prog_10_method_89_code 18 = .ok (.iload_n 1, 1)) rfl ?_
    refine g_iaload (a := t) (by decide +kernel : decode prog_10_method_89_code 19 = .ok (.iaload, 1)) rfl rfl (by omega) (by decide) ?_
    refine g_top (w := σ 8 t) (rfl) ?_
    refine g_iload_n (by decide +kernel : decode prog_10_method_89_code 20 = .ok (.iload_n 2, 1)) rfl ?_
    refine g_icmp_eq (tgt := 29) (by decide +kernel : decode prog_10_method_89_code 21 = .ok (.if_icmp .eq 8, 3)) (by decide) (fun h21 => ?_) (fun h21 => ?_)
    · refine g_iconst (v := nI 0) (by decide +kernel : decode prog_10_method_89_code 29 = .ok (.iconst 0, 1)) (by decide) ?_
      exact g_iret hR (by decide +kernel : decode prog_10_method_89_code 30 = .ok (.ireturn, 1)) rfl ⟨_, rfl, ⟨by unfold lackF; first | rw [if_neg h6] | rw [if_pos h6, if_pos h21] | rw [if_pos h6, if_neg h21], rfl⟩⟩
    · refine g_bipush (v := (-13)) (by decide +kernel : decode prog_10_method_89_code 24 = .ok (.bipush (-13), 2)) (by decide) ?_
      refine g_goto (tgt := 30) (by decide +kernel : decode prog_10_method_89_code 26 = .ok (.goto 4, 3)) (by decide) ?_
      exact g_iret hR (by decide +kernel : decode prog_10_method_89_code 30 = .ok (.ireturn, 1)) rfl ⟨_, rfl, ⟨by unfold lackF; first | rw [if_neg h6] | rw [if_pos h6, if_pos h21] | rw [if_pos h6, if_neg h21], rfl⟩⟩
  · refine g_bipush (v := (-11)) (by decide +kernel : decode prog_10_method_89_code 9 = .ok (.bipush (-11), 2)) (by decide) ?_
    refine g_goto (tgt := 30) (by decide +kernel : decode prog_10_method_89_code 11 = .ok (.goto 19, 3)) (by decide) ?_
    exact g_iret hR (by decide +kernel : decode prog_10_method_89_code 30 = .ok (.ireturn, 1)) rfl ⟨_, rfl, ⟨by unfold lackF; first | rw [if_neg h6] | rw [if_pos h6, if_pos h21] | rw [if_pos h6, if_neg h21], rfl⟩⟩
set_option maxRecDepth 20000 in
theorem q_item (σ : Store) (f b : Row) (hS : ShI σ) (x y z : Int32) : Ct ΛM mt_Md_item 2 [.ref 0, .int x, .int y, .int z] (mS σ f b) (PF (itemV σ x y z) (mS σ f b)) := by
  refine Ct.of (by decide) (Nat.le_of_ble_eq_true rfl) (fun X hR => ?_)
  show G (ΛM, mt_Md_item, 2) X (mS σ f b) [some (.ref 0), some (.int x), some (.int y), some (.int z)] [] 0
  refine g_iload_n (by decide +kernel : decode prog_10_method_90_code 0 = .ok (.iload_n 1, 1)) rfl ?_
  refine g_callSI [.int x] (by decide +kernel : decode prog_10_method_90_code 1 = .ok (.invokestatic 240, 3)) lk_Md_240 (m_isSheet ΛM (mS σ f b) x) rfl rfl (Nat.le_of_ble_eq_true rfl) (Nat.le_of_ble_eq_true rfl) (fun r1 s1 h1 => ?_)
  rcases h1 with ⟨rfl, ⟨rfl, t, ha1, hb1, rfl⟩ | ⟨rfl, n1⟩⟩
  · refine g_if_eqN (tgt := 19) (by decide +kernel : decode prog_10_method_90_code 4 = .ok (.ifCond .eq 15, 3)) (by decide) (by decide) (fun h => False.elim (by revert h; decide)) (fun _ => ?_)
    refine g_iload_n (by decide +kernel : decode prog_10_method_90_code 7 = .ok (.iload_n 2, 1)) rfl ?_
    refine g_i2l (by decide +kernel : decode prog_10_method_90_code 8 = .ok (.i2l, 1)) ?_
    refine g_lconst (v := lN 0) (by decide +kernel : decode prog_10_method_90_code 9 = .ok (.lconst 0, 1)) (by decide) ?_
    refine g_ldc2 (v := lN 3) (by decide +kernel : decode prog_10_method_90_code 10 = .ok (.ldc2_w 151, 3)) kc_Md_151 ?_
    refine g_callSI [.long (Int32.toInt64 y), .long (lN 0), .long (lN 3)] (by decide +kernel : decode prog_10_method_90_code 13 = .ok (.invokestatic 57, 3)) lk_Md_57 (m_isInN ΛM (mS σ f b) y 0 3) rfl rfl (Nat.le_of_ble_eq_true rfl) (Nat.le_of_ble_eq_true rfl) (fun r13 s13 h13 => ?_)
    rcases h13 with ⟨rfl, ⟨rfl, q, ha13, hb13, rfl⟩ | ⟨rfl, n13⟩⟩
    · refine g_if_neN (tgt := 21) (by decide +kernel : decode prog_10_method_90_code 16 = .ok (.ifCond .ne 5, 3)) (by decide) (by decide) (fun _ => ?_) (fun h => False.elim (by revert h; decide))
      obtain ⟨n, hn, e9⟩ := (hS t (by omega)).2
      have htn : tn (σ 9 t) = n := by rw [e9, tn_nI (by omega)]
      rcases (hS t (by omega)).1 with e8 | ⟨s, hs, e8⟩
      · refine g_aload_n (by decide +kernel : decode prog_10_method_90_code 21 = .ok (.aload_n 0, 1)) rfl ?_
        refine g_iload_n (by decide +kernel : decode prog_10_method_90_code 22 = .ok (.iload_n 1, 1)) rfl ?_
        refine g_iload_n (by decide +kernel : decode prog_10_method_90_code 23 = .ok (.iload_n 2, 1)) rfl ?_
        refine g_callVI [.int (nI t), .int (nI q)] (by decide +kernel : decode prog_10_method_90_code 24 = .ok (.invokevirtual 263, 3)) lk_Md_263 (m_lacks σ f b t (by omega) (nI q)) rfl rfl rfl rfl (Nat.le_of_ble_eq_true rfl) (Nat.le_of_ble_eq_true rfl) (fun r24 s24 h24 => ?_)
        obtain ⟨rfl, rfl⟩ := h24
        refine g_top (w := -11) (by rw [e8]; rfl) ?_
        refine g_if_eq (tgt := 37) (by decide +kernel : decode prog_10_method_90_code 27 = .ok (.ifCond .eq 10, 3)) (by decide) (fun h => False.elim (by revert h; decide)) (fun _ => ?_)
        refine g_aload_n (by decide +kernel : decode prog_10_method_90_code 30 = .ok (.aload_n 0, 1)) rfl ?_
        refine g_iload_n (by decide +kernel : decode prog_10_method_90_code 31 = .ok (.iload_n 1, 1)) rfl ?_
        refine g_iload_n (by decide +kernel : decode prog_10_method_90_code 32 = .ok (.iload_n 2, 1)) rfl ?_
        refine g_callVI [.int (nI t), .int (nI q)] (by decide +kernel : decode prog_10_method_90_code 33 = .ok (.invokevirtual 263, 3)) lk_Md_263 (m_lacks σ f b t (by omega) (nI q)) rfl rfl rfl rfl (Nat.le_of_ble_eq_true rfl) (Nat.le_of_ble_eq_true rfl) (fun r33 s33 h33 => ?_)
        obtain ⟨rfl, rfl⟩ := h33
        refine g_top (w := -11) (by rw [e8]; rfl) ?_
        exact g_iret hR (by decide +kernel : decode prog_10_method_90_code 36 = .ok (.ireturn, 1)) rfl ⟨_, rfl, ⟨by simp only [itemV, rg_of ha1 hb1, rg_of ha13 hb13, neg8 e8], rfl⟩⟩
      · by_cases hsq : nI s = nI q
        · refine g_aload_n (by decide +kernel : decode prog_10_method_90_code 21 = .ok (.aload_n 0, 1)) rfl ?_
          refine g_iload_n (by decide +kernel : decode prog_10_method_90_code 22 = .ok (.iload_n 1, 1)) rfl ?_
          refine g_iload_n (by decide +kernel : decode prog_10_method_90_code 23 = .ok (.iload_n 2, 1)) rfl ?_
          refine g_callVI [.int (nI t), .int (nI q)] (by decide +kernel : decode prog_10_method_90_code 24 = .ok (.invokevirtual 263, 3)) lk_Md_263 (m_lacks σ f b t (by omega) (nI q)) rfl rfl rfl rfl (Nat.le_of_ble_eq_true rfl) (Nat.le_of_ble_eq_true rfl) (fun r24 s24 h24 => ?_)
          obtain ⟨rfl, rfl⟩ := h24
          refine g_top (w := nI 0) (by rw [e8]; unfold lackF; rw [if_pos (nI_pos' (by omega)), if_pos hsq]) ?_
          refine g_if_eqN (tgt := 37) (by decide +kernel : decode prog_10_method_90_code 27 = .ok (.ifCond .eq 10, 3)) (by decide) (by decide) (fun _ => ?_) (fun h => False.elim (by revert h; decide))
          refine g_iload_n (by decide +kernel : decode prog_10_method_90_code 37 = .ok (.iload_n 3, 1)) rfl ?_
          refine g_i2l (by decide +kernel : decode prog_10_method_90_code 38 = .ok (.i2l, 1)) ?_
          refine g_lconst (v := lN 0) (by decide +kernel : decode prog_10_method_90_code 39 = .ok (.lconst 0, 1)) (by decide) ?_
          refine g_aload_n (by decide +kernel : decode prog_10_method_90_code 40 = .ok (.aload_n 0, 1)) rfl ?_
          refine g_getR (by decide +kernel : decode prog_10_method_90_code 41 = .ok (.getfield 34, 3)) fl_Md_34 rfl rfl ?_
          refine g_iload_n (by decide +kernel : decode prog_10_method_90_code 44 = .ok (.iload_n 1, 1)) rfl ?_
          refine g_iaload (a := t) (by decide +kernel : decode prog_10_method_90_code 45 = .ok (.iaload, 1)) rfl rfl (by omega) (by decide) ?_
          refine g_top (w := nI n) (e9) ?_
          refine g_iconst (v := nI 1) (by decide +kernel : decode prog_10_method_90_code 46 = .ok (.iconst 1, 1)) (by decide) ?_
          refine g_isub (by decide +kernel : decode prog_10_method_90_code 47 = .ok (.isub, 1)) ?_
          refine g_i2l (by decide +kernel : decode prog_10_method_90_code 48 = .ok (.i2l, 1)) ?_
          refine g_callSI [.long (Int32.toInt64 z), .long (lN 0), .long (Int32.toInt64 ((nI n) - (nI 1)))] (by decide +kernel : decode prog_10_method_90_code 49 = .ok (.invokestatic 57, 3)) lk_Md_57 (m_isInR ΛM (mS σ f b) z (r := n) (by omega)) rfl rfl (Nat.le_of_ble_eq_true rfl) (Nat.le_of_ble_eq_true rfl) (fun r49 s49 h49 => ?_)
          rcases h49 with ⟨rfl, ⟨rfl, i, hi49, rfl⟩ | ⟨rfl, n49⟩⟩
          · refine g_if_eqN (tgt := 69) (by decide +kernel : decode prog_10_method_90_code 52 = .ok (.ifCond .eq 17, 3)) (by decide) (by decide) (fun h => False.elim (by revert h; decide)) (fun _ => ?_)
            refine g_aload_n (by decide +kernel : decode prog_10_method_90_code 55 = .ok (.aload_n 0, 1)) rfl ?_
            refine g_getR (by decide +kernel : decode prog_10_method_90_code 56 = .ok (.getfield 37, 3)) fl_Md_37 rfl rfl ?_
            refine g_bipush (v := nI 40) (by decide +kernel : decode prog_10_method_90_code 59 = .ok (.bipush 40, 2)) (by decide) ?_
            refine g_iload_n (by decide +kernel : decode prog_10_method_90_code 61 = .ok (.iload_n 1, 1)) rfl ?_
            refine g_imulN (by decide +kernel : decode prog_10_method_90_code 62 = .ok (.imul, 1)) ?_
            refine g_iload_n (by decide +kernel : decode prog_10_method_90_code 63 = .ok (.iload_n 3, 1)) rfl ?_
            refine g_iaddN (by decide +kernel : decode prog_10_method_90_code 64 = .ok (.iadd, 1)) ?_
            refine g_iaload (a := 40 * t + i) (by decide +kernel : decode prog_10_method_90_code 65 = .ok (.iaload, 1)) rfl rfl (by omega) (by decide) ?_
            refine g_top (w := σ 10 (40 * t + i)) (rfl) ?_
            refine g_goto (tgt := 71) (by decide +kernel : decode prog_10_method_90_code 66 = .ok (.goto 5, 3)) (by decide) ?_
            exact g_iret hR (by decide +kernel : decode prog_10_method_90_code 71 = .ok (.ireturn, 1)) rfl ⟨_, rfl, ⟨by simp only [itemV, rg_of ha1 hb1, rg_of ha13 hb13, pos8 hs e8, if_pos (e8.trans hsq), ri_of (show n < 2 ^ 31 by omega) hi49, htn], rfl⟩⟩
          · refine g_if_eqN (tgt := 69) (by decide +kernel : decode prog_10_method_90_code 52 = .ok (.ifCond .eq 17, 3)) (by decide) (by decide) (fun _ => ?_) (fun h => False.elim (by revert h; decide))
            refine g_bipush (v := (-12)) (by decide +kernel : decode prog_10_method_90_code 69 = .ok (.bipush (-12), 2)) (by decide) ?_
            exact g_iret hR (by decide +kernel : decode prog_10_method_90_code 71 = .ok (.ireturn, 1)) rfl ⟨_, rfl, ⟨by simp only [itemV, rg_of ha1 hb1, rg_of ha13 hb13, pos8 hs e8, if_pos (e8.trans hsq), ri_none (show n < 2 ^ 31 by omega) n49, htn], rfl⟩⟩
        · refine g_aload_n (by decide +kernel : decode prog_10_method_90_code 21 = .ok (.aload_n 0, 1)) rfl ?_
          refine g_iload_n (by decide +kernel : decode prog_10_method_90_code 22 = .ok (.iload_n 1, 1)) rfl ?_
          refine g_iload_n (by decide +kernel : decode prog_10_method_90_code 23 = .ok (.iload_n 2, 1)) rfl ?_
          refine g_callVI [.int (nI t), .int (nI q)] (by decide +kernel : decode prog_10_method_90_code 24 = .ok (.invokevirtual 263, 3)) lk_Md_263 (m_lacks σ f b t (by omega) (nI q)) rfl rfl rfl rfl (Nat.le_of_ble_eq_true rfl) (Nat.le_of_ble_eq_true rfl) (fun r24 s24 h24 => ?_)
          obtain ⟨rfl, rfl⟩ := h24
          refine g_top (w := -13) (by rw [e8]; unfold lackF; rw [if_pos (nI_pos' (by omega)), if_neg hsq]) ?_
          refine g_if_eq (tgt := 37) (by decide +kernel : decode prog_10_method_90_code 27 = .ok (.ifCond .eq 10, 3)) (by decide) (fun h => False.elim (by revert h; decide)) (fun _ => ?_)
          refine g_aload_n (by decide +kernel : decode prog_10_method_90_code 30 = .ok (.aload_n 0, 1)) rfl ?_
          refine g_iload_n (by decide +kernel : decode prog_10_method_90_code 31 = .ok (.iload_n 1, 1)) rfl ?_
          refine g_iload_n (by decide +kernel : decode prog_10_method_90_code 32 = .ok (.iload_n 2, 1)) rfl ?_
          refine g_callVI [.int (nI t), .int (nI q)] (by decide +kernel : decode prog_10_method_90_code 33 = .ok (.invokevirtual 263, 3)) lk_Md_263 (m_lacks σ f b t (by omega) (nI q)) rfl rfl rfl rfl (Nat.le_of_ble_eq_true rfl) (Nat.le_of_ble_eq_true rfl) (fun r33 s33 h33 => ?_)
          obtain ⟨rfl, rfl⟩ := h33
          refine g_top (w := -13) (by rw [e8]; unfold lackF; rw [if_pos (nI_pos' (by omega)), if_neg hsq]) ?_
          exact g_iret hR (by decide +kernel : decode prog_10_method_90_code 36 = .ok (.ireturn, 1)) rfl ⟨_, rfl, ⟨by simp only [itemV, rg_of ha1 hb1, rg_of ha13 hb13, pos8 hs e8, if_neg (fun z => hsq (e8.symm.trans z))], rfl⟩⟩
    · refine g_if_neN (tgt := 21) (by decide +kernel : decode prog_10_method_90_code 16 = .ok (.ifCond .ne 5, 3)) (by decide) (by decide) (fun h => False.elim (by revert h; decide)) (fun _ => ?_)
      refine g_iconst (v := (-1)) (by decide +kernel : decode prog_10_method_90_code 19 = .ok (.iconst (-1), 1)) (by decide) ?_
      exact g_iret hR (by decide +kernel : decode prog_10_method_90_code 20 = .ok (.ireturn, 1)) rfl ⟨_, rfl, ⟨by simp only [itemV, rg_of ha1 hb1, rg_none n13], rfl⟩⟩
  · refine g_if_eqN (tgt := 19) (by decide +kernel : decode prog_10_method_90_code 4 = .ok (.ifCond .eq 15, 3)) (by decide) (by decide) (fun _ => ?_) (fun h => False.elim (by revert h; decide))
    refine g_iconst (v := (-1)) (by decide +kernel : decode prog_10_method_90_code 19 = .ok (.iconst (-1), 1)) (by decide) ?_
    exact g_iret hR (by decide +kernel : decode prog_10_method_90_code 20 = .ok (.ireturn, 1)) rfl ⟨_, rfl, ⟨by simp only [itemV, rg_none n1], rfl⟩⟩
