/-! THE REFERENCE: what is asked and told of laws, places, people -/
theorem pl_of {j : Nat} (h : j < 12) : rg 0 11 (nI j) = some j := rg_of (Nat.zero_le _) (by omega)
theorem pl_none {x : Int32} (h : ¬ ∃ j, j < 12 ∧ x = nI j) : rg 0 11 x = none := rg_none (fun ⟨j, _, h1, h2⟩ => h ⟨j, by omega, h2⟩)
theorem m_mostOfN (Λ : Lay) (σ : Store) {i : Nat} (h : i ≤ 3) : Ct Λ mt_Md_mostOf 0 [.int (nI i)] σ (PF (nI (lm i)) σ) := by
  have h1 := m_mostOf Λ σ (nI i)
  rcases (show i = 0 ∨ i = 1 ∨ i = 2 ∨ i = 3 by omega) with rfl | rfl | rfl | rfl
  · exact h1
  · exact h1
  · exact h1
  · exact h1
theorem lm_lt (i : Nat) : lm i ≤ 99 := by unfold lm; split <;> decide
def setV (f : Row) (x y : Int32) : Int32 := match rg 0 3 x with
  | none => -1
  | some i => match rg 0 (lm i) y with
    | none => -1
    | some _ => f (3 + i)
def setT (f : Row) (x y : Int32) : Row := match rg 0 3 x with
  | none => f
  | some i => match rg 0 (lm i) y with
    | none => f
    | some v => upd f (3 + i) (nI v)
def lawV (f : Row) (x : Int32) : Int32 := match rg 0 3 x with
  | none => -1
  | some i => f (3 + i)
def ofV (f : Row) (x y : Int32) : Int32 := match pz f x with
  | none => -1
  | some o => match rg 0 5 y with
    | none => -1
    | some w => f (19 + 6 * o + w)
def doesV (f : Row) (x y : Int32) : Int32 := match pz f x with
  | none => -1
  | some o => match rg 0 2 y with
    | none => -1
    | some 0 => nI 1000 + hidesF f o
    | some 1 => nI 1000 + seesF f o
    | some _ => nI 1000 + stridesF f o
def mindV (f : Row) (x y z : Int32) : Int32 := match pz f x with
  | none => -1
  | some o => match rg 0 5 y with
    | none => -1
    | some _ => match rg 0 9 z with
      | none => -1
      | some _ => f (19 + 6 * o + 0)
def mindT (f : Row) (x y z : Int32) : Row := match pz f x with
  | none => f
  | some o => match rg 0 5 y with
    | none => f
    | some k => match rg 0 9 z with
      | none => f
      | some w => upd (upd f (19 + 6 * o + 2) (nI w)) (19 + 6 * o + 0) (nI k)
/-- one number of one becomes another -/
def oneV (w m : Nat) (f : Row) (x y : Int32) : Int32 := match pz f x with
  | none => -1
  | some o => match rg 0 m y with
    | none => -1
    | some _ => f (19 + 6 * o + w)
def oneT (w m : Nat) (f : Row) (x y : Int32) : Row := match pz f x with
  | none => f
  | some o => match rg 0 m y with
    | none => f
    | some v => upd f (19 + 6 * o + w) (nI v)
def seekV (f : Row) (x y : Int32) : Int32 := match pz f x with
  | none => -1
  | some o => match rg 0 1 y with
    | none => -1
    | some _ => nI 1 - f (19 + 6 * o + 4)
def seekT (f : Row) (x y : Int32) : Row := match pz f x with
  | none => f
  | some o => match rg 0 1 y with
    | none => f
    | some v => upd f (19 + 6 * o + 4) (nI (1 - v))
def placeV (f : Row) (x y : Int32) : Int32 := match rg 0 11 x with
  | none => -1
  | some p => match rg 0 2 y with
    | none => -1
    | some 0 => f (7 + p)
    | some 1 => nI (atm f p (nn f))
    | some _ => nI (popc (atm f p (nn f) &&& msk f (nn f)))
def coverV (f : Row) (x y : Int32) : Int32 := match rg 0 11 x with
  | none => -1
  | some p => match rg 0 9 y with
    | none => -1
    | some _ => f (7 + p)
def coverT (f : Row) (x y : Int32) : Row := match rg 0 11 x with
  | none => f
  | some p => match rg 0 9 y with
    | none => f
    | some v => upd f (7 + p) (nI v)
/-- one more -/
def adm (f : Row) (k a w p h : Nat) : Row := upd (upd (upd (upd (upd (upd (upd f (19 + 6 * nn f + 0) (nI k)) (19 + 6 * nn f + 1) (nI a)) (19 + 6 * nn f + 2) (nI w)) (19 + 6 * nn f + 3) (nI p)) (19 + 6 * nn f + 4) (nI h)) (19 + 6 * nn f + 5) (nI 0)) 0 (nI (nn f + 1))
def personV (f : Row) (x y z u v : Int32) : Int32 := match rg 0 5 x with
  | none => -1
  | some _ => match rg 0 99 y with
    | none => -1
    | some _ => match rg 0 9 z with
      | none => -1
      | some _ => match rg 0 11 u with
        | none => -1
        | some _ => match rg 0 1 v with
          | none => -1
          | some _ => if nn f = 8 then -2 else nI (nn f)
def personT (f : Row) (x y z u v : Int32) : Row := match rg 0 5 x with
  | none => f
  | some k => match rg 0 99 y with
    | none => f
    | some a => match rg 0 9 z with
      | none => f
      | some w => match rg 0 11 u with
        | none => f
        | some p => match rg 0 1 v with
          | none => f
          | some s => if nn f = 8 then f else adm f k a w p (1 - s)
set_option maxRecDepth 20000 in
theorem p_set (σ : Store) (f b : Row) (hI : Inv f) (x y : Int32) : Ct ΛM mt_Md_set 1 [.ref 0, .int x, .int y] (mS σ f b) (mP σ (setV f x y) (setT f x y)) := by
  refine Ct.of (by decide) (Nat.le_of_ble_eq_true rfl) (fun X hR => ?_)
  show G (ΛM, mt_Md_set, 1) X (mS σ f b) [some (.ref 0), some (.int x), some (.int y)] [] 0
  have hn8 := hI.n.2
  refine g_iload_n (by decide +kernel : decode prog_10_method_33_code 0 = .ok (.iload_n 1, 1)) rfl ?_
  refine g_i2l (by decide +kernel : decode prog_10_method_33_code 1 = .ok (.i2l, 1)) ?_
  refine g_lconst (v := lN 0) (by decide +kernel : decode prog_10_method_33_code 2 = .ok (.lconst 0, 1)) (by decide) ?_
  refine g_ldc2 (v := lN 3) (by decide +kernel : decode prog_10_method_33_code 3 = .ok (.ldc2_w 151, 3)) kc_Md_151 ?_
  refine g_callSI [.long (Int32.toInt64 x), .long (lN 0), .long (lN 3)] (by decide +kernel : decode prog_10_method_33_code 6 = .ok (.invokestatic 57, 3)) lk_Md_57 (m_isInN ΛM (mS σ f b) x 0 3) rfl rfl (Nat.le_of_ble_eq_true rfl) (Nat.le_of_ble_eq_true rfl) (fun r6 s6 h6 => ?_)
  rcases h6 with ⟨rfl, ⟨rfl, i, ha6, hb6, rfl⟩ | ⟨rfl, n6⟩⟩
  · refine g_if_eqN (tgt := 37) (by decide +kernel : decode prog_10_method_33_code 9 = .ok (.ifCond .eq 28, 3)) (by decide) (by decide) (fun h => False.elim (by revert h; decide)) (fun _ => ?_)
    refine g_iload_n (by decide +kernel : decode prog_10_method_33_code 12 = .ok (.iload_n 2, 1)) rfl ?_
    refine g_i2l (by decide +kernel : decode prog_10_method_33_code 13 = .ok (.i2l, 1)) ?_
    refine g_lconst (v := lN 0) (by decide +kernel : decode prog_10_method_33_code 14 = .ok (.lconst 0, 1)) (by decide) ?_
    refine g_iload_n (by decide +kernel : decode prog_10_method_33_code 15 = .ok (.iload_n 1, 1)) rfl ?_
    refine g_callSI [.int (nI i)] (by decide +kernel : decode prog_10_method_33_code 16 = .ok (.invokestatic 153, 3)) lk_Md_153 (m_mostOfN ΛM (mS σ f b) (i := i) (by omega)) rfl rfl (Nat.le_of_ble_eq_true rfl) (Nat.le_of_ble_eq_true rfl) (fun r16 s16 h16 => ?_)
    obtain ⟨rfl, rfl⟩ := h16
    refine g_i2lN (by decide +kernel : decode prog_10_method_33_code 19 = .ok (.i2l, 1)) (by first | omega | (have h9 := lm_lt i; omega)) ?_
    refine g_callSI [.long (Int32.toInt64 y), .long (lN 0), .long (lN (lm i))] (by decide +kernel : decode prog_10_method_33_code 20 = .ok (.invokestatic 57, 3)) lk_Md_57 (m_isInN ΛM (mS σ f b) y 0 (lm i) (by have := lm_lt i; omega) (Nat.zero_le _)) rfl rfl (Nat.le_of_ble_eq_true rfl) (Nat.le_of_ble_eq_true rfl) (fun r20 s20 h20 => ?_)
    rcases h20 with ⟨rfl, ⟨rfl, v, ha20, hb20, rfl⟩ | ⟨rfl, n20⟩⟩
    · refine g_if_eqN (tgt := 37) (by decide +kernel : decode prog_10_method_33_code 23 = .ok (.ifCond .eq 14, 3)) (by decide) (by decide) (fun h => False.elim (by revert h; decide)) (fun _ => ?_)
      refine g_aload_n (by decide +kernel : decode prog_10_method_33_code 26 = .ok (.aload_n 0, 1)) rfl ?_
      refine g_iconst (v := nI 3) (by decide +kernel : decode prog_10_method_33_code 27 = .ok (.iconst 3, 1)) (by decide) ?_
      refine g_iload_n (by decide +kernel : decode prog_10_method_33_code 28 = .ok (.iload_n 1, 1)) rfl ?_
      refine g_iaddN (by decide +kernel : decode prog_10_method_33_code 29 = .ok (.iadd, 1)) ?_
      refine g_iload_n (by decide +kernel : decode prog_10_method_33_code 30 = .ok (.iload_n 2, 1)) rfl ?_
      refine g_callVI [.int (nI (3 + i)), .int (nI v)] (by decide +kernel : decode prog_10_method_33_code 31 = .ok (.invokevirtual 156, 3)) lk_Md_156 (m_becomes (mS σ f b) (3 + i) (nI v) (v := f (3 + i)) rfl (by first | omega | (have h9 := lm_lt i; omega))) rfl rfl rfl rfl (Nat.le_of_ble_eq_true rfl) (Nat.le_of_ble_eq_true rfl) (fun r31 s31 h31 => ?_)
      obtain ⟨rfl, rfl⟩ := h31
      refine g_sto (mS_u1 _ _ _ _ _) ?_
      refine g_goto (tgt := 38) (by decide +kernel : decode prog_10_method_33_code 34 = .ok (.goto 4, 3)) (by decide) ?_
      exact g_iret hR (by decide +kernel : decode prog_10_method_33_code 38 = .ok (.ireturn, 1)) rfl ⟨_, rfl, ⟨by simp only [setV, rg_of ha6 hb6, rg_of ha20 hb20 (by have := lm_lt i; omega)], by simp only [setT, rg_of ha6 hb6, rg_of ha20 hb20 (by have := lm_lt i; omega)]; exact Jk.self _ _ _⟩⟩
    · refine g_if_eqN (tgt := 37) (by decide +kernel : decode prog_10_method_33_code 23 = .ok (.ifCond .eq 14, 3)) (by decide) (by decide) (fun _ => ?_) (fun h => False.elim (by revert h; decide))
      refine g_iconst (v := (-1)) (by decide +kernel : decode prog_10_method_33_code 37 = .ok (.iconst (-1), 1)) (by decide) ?_
      exact g_iret hR (by decide +kernel : decode prog_10_method_33_code 38 = .ok (.ireturn, 1)) rfl ⟨_, rfl, ⟨by simp only [setV, rg_of ha6 hb6, rg_none n20 (by have := lm_lt i; omega) (Nat.zero_le _)], by simp only [setT, rg_of ha6 hb6, rg_none n20 (by have := lm_lt i; omega) (Nat.zero_le _)]; exact Jk.self _ _ _⟩⟩
  · refine g_if_eqN (tgt := 37) (by decide +kernel : decode prog_10_method_33_code 9 = .ok (.ifCond .eq 28, 3)) (by decide) (by decide) (fun _ => ?_) (fun h => False.elim (by revert h; decide))
    refine g_iconst (v := (-1)) (by decide +kernel : decode prog_10_method_33_code 37 = .ok (.iconst (-1), 1)) (by decide) ?_
    exact g_iret hR (by decide +kernel : decode prog_10_method_33_code 38 = .ok (.ireturn, 1)) rfl ⟨_, rfl, ⟨by simp only [setV, rg_none n6], by simp only [setT, rg_none n6]; exact Jk.self _ _ _⟩⟩
set_option maxRecDepth 20000 in
theorem p_lawOf (σ : Store) (f b : Row) (hI : Inv f) (x : Int32) : Ct ΛM mt_Md_lawOf 1 [.ref 0, .int x] (mS σ f b) (mP σ (lawV f x) f) := by
  refine Ct.of (by decide) (Nat.le_of_ble_eq_true rfl) (fun X hR => ?_)
  show G (ΛM, mt_Md_lawOf, 1) X (mS σ f b) [some (.ref 0), some (.int x)] [] 0
  have hn8 := hI.n.2
  refine g_iload_n (by decide +kernel : decode prog_10_method_34_code 0 = .ok (.iload_n 1, 1)) rfl ?_
  refine g_i2l (by decide +kernel : decode prog_10_method_34_code 1 = .ok (.i2l, 1)) ?_
  refine g_lconst (v := lN 0) (by decide +kernel : decode prog_10_method_34_code 2 = .ok (.lconst 0, 1)) (by decide) ?_
  refine g_ldc2 (v := lN 3) (by decide +kernel : decode prog_10_method_34_code 3 = .ok (.ldc2_w 151, 3)) kc_Md_151 ?_
  refine g_callSI [.long (Int32.toInt64 x), .long (lN 0), .long (lN 3)] (by decide +kernel : decode prog_10_method_34_code 6 = .ok (.invokestatic 57, 3)) lk_Md_57 (m_isInN ΛM (mS σ f b) x 0 3) rfl rfl (Nat.le_of_ble_eq_true rfl) (Nat.le_of_ble_eq_true rfl) (fun r6 s6 h6 => ?_)
  rcases h6 with ⟨rfl, ⟨rfl, i, ha6, hb6, rfl⟩ | ⟨rfl, n6⟩⟩
  · refine g_if_eqN (tgt := 23) (by decide +kernel : decode prog_10_method_34_code 9 = .ok (.ifCond .eq 14, 3)) (by decide) (by decide) (fun h => False.elim (by revert h; decide)) (fun _ => ?_)
    refine g_aload_n (by decide +kernel : decode prog_10_method_34_code 12 = .ok (.aload_n 0, 1)) rfl ?_
    refine g_getR (by decide +kernel : decode prog_10_method_34_code 13 = .ok (.getfield 7, 3)) fl_Md_7 rfl rfl ?_
    refine g_iconst (v := nI 3) (by decide +kernel : decode prog_10_method_34_code 16 = .ok (.iconst 3, 1)) (by decide) ?_
    refine g_iload_n (by decide +kernel : decode prog_10_method_34_code 17 = .ok (.iload_n 1, 1)) rfl ?_
    refine g_iaddN (by decide +kernel : decode prog_10_method_34_code 18 = .ok (.iadd, 1)) ?_
    refine g_iaload (a := 3 + i) (by decide +kernel : decode prog_10_method_34_code 19 = .ok (.iaload, 1)) rfl rfl (by omega) (by decide) ?_
    refine g_top (w := f (3 + i)) (rfl) ?_
    refine g_goto (tgt := 24) (by decide +kernel : decode prog_10_method_34_code 20 = .ok (.goto 4, 3)) (by decide) ?_
    exact g_iret hR (by decide +kernel : decode prog_10_method_34_code 24 = .ok (.ireturn, 1)) rfl ⟨_, rfl, ⟨by simp only [lawV, rg_of ha6 hb6], Jk.self _ _ _⟩⟩
  · refine g_if_eqN (tgt := 23) (by decide +kernel : decode prog_10_method_34_code 9 = .ok (.ifCond .eq 14, 3)) (by decide) (by decide) (fun _ => ?_) (fun h => False.elim (by revert h; decide))
    refine g_iconst (v := (-1)) (by decide +kernel : decode prog_10_method_34_code 23 = .ok (.iconst (-1), 1)) (by decide) ?_
    exact g_iret hR (by decide +kernel : decode prog_10_method_34_code 24 = .ok (.ireturn, 1)) rfl ⟨_, rfl, ⟨by simp only [lawV, rg_none n6], Jk.self _ _ _⟩⟩
set_option maxRecDepth 20000 in
theorem p_of (σ : Store) (f b : Row) (hI : Inv f) (x y : Int32) : Ct ΛM mt_Md_of 1 [.ref 0, .int x, .int y] (mS σ f b) (mP σ (ofV f x y) f) := by
  refine Ct.of (by decide) (Nat.le_of_ble_eq_true rfl) (fun X hR => ?_)
  show G (ΛM, mt_Md_of, 1) X (mS σ f b) [some (.ref 0), some (.int x), some (.int y)] [] 0
  have hn8 := hI.n.2
  refine g_aload_n (by decide +kernel : decode prog_10_method_39_code 0 = .ok (.aload_n 0, 1)) rfl ?_
  refine g_iload_n (by decide +kernel : decode prog_10_method_39_code 1 = .ok (.iload_n 1, 1)) rfl ?_
  refine g_callVI [.int x] (by decide +kernel : decode prog_10_method_39_code 2 = .ok (.invokevirtual 172, 3)) lk_Md_172 (m_isOne (mS σ f b) x hI.n.1 (by omega)) rfl rfl rfl rfl (Nat.le_of_ble_eq_true rfl) (Nat.le_of_ble_eq_true rfl) (fun r2 s2 h2 => ?_)
  rcases h2 with ⟨rfl, ⟨rfl, o, ho2, rfl⟩ | ⟨rfl, n2⟩⟩
  · refine g_if_eqN (tgt := 29) (by decide +kernel : decode prog_10_method_39_code 5 = .ok (.ifCond .eq 24, 3)) (by decide) (by decide) (fun h => False.elim (by revert h; decide)) (fun _ => ?_)
    refine g_iload_n (by decide +kernel : decode prog_10_method_39_code 8 = .ok (.iload_n 2, 1)) rfl ?_
    refine g_i2l (by decide +kernel : decode prog_10_method_39_code 9 = .ok (.i2l, 1)) ?_
    refine g_lconst (v := lN 0) (by decide +kernel : decode prog_10_method_39_code 10 = .ok (.lconst 0, 1)) (by decide) ?_
    refine g_ldc2 (v := lN 5) (by decide +kernel : decode prog_10_method_39_code 11 = .ok (.ldc2_w 160, 3)) kc_Md_160 ?_
    refine g_callSI [.long (Int32.toInt64 y), .long (lN 0), .long (lN 5)] (by decide +kernel : decode prog_10_method_39_code 14 = .ok (.invokestatic 57, 3)) lk_Md_57 (m_isInN ΛM (mS σ f b) y 0 5) rfl rfl (Nat.le_of_ble_eq_true rfl) (Nat.le_of_ble_eq_true rfl) (fun r14 s14 h14 => ?_)
    rcases h14 with ⟨rfl, ⟨rfl, w, ha14, hb14, rfl⟩ | ⟨rfl, n14⟩⟩
    · refine g_if_eqN (tgt := 29) (by decide +kernel : decode prog_10_method_39_code 17 = .ok (.ifCond .eq 12, 3)) (by decide) (by decide) (fun h => False.elim (by revert h; decide)) (fun _ => ?_)
      refine g_aload_n (by decide +kernel : decode prog_10_method_39_code 20 = .ok (.aload_n 0, 1)) rfl ?_
      refine g_iload_n (by decide +kernel : decode prog_10_method_39_code 21 = .ok (.iload_n 1, 1)) rfl ?_
      refine g_iload_n (by decide +kernel : decode prog_10_method_39_code 22 = .ok (.iload_n 2, 1)) rfl ?_
      refine g_callVI [.int (nI o), .int (nI w)] (by decide +kernel : decode prog_10_method_39_code 23 = .ok (.invokevirtual 169, 3)) lk_Md_169 (m_its (mS σ f b) o w (v := f (19 + 6 * o + w)) rfl (by omega)) rfl rfl rfl rfl (Nat.le_of_ble_eq_true rfl) (Nat.le_of_ble_eq_true rfl) (fun r23 s23 h23 => ?_)
      obtain ⟨rfl, rfl⟩ := h23
      refine g_goto (tgt := 30) (by decide +kernel : decode prog_10_method_39_code 26 = .ok (.goto 4, 3)) (by decide) ?_
      exact g_iret hR (by decide +kernel : decode prog_10_method_39_code 30 = .ok (.ireturn, 1)) rfl ⟨_, rfl, ⟨by simp only [ofV, pz_of hI ho2, rg_of ha14 hb14], Jk.self _ _ _⟩⟩
    · refine g_if_eqN (tgt := 29) (by decide +kernel : decode prog_10_method_39_code 17 = .ok (.ifCond .eq 12, 3)) (by decide) (by decide) (fun _ => ?_) (fun h => False.elim (by revert h; decide))
      refine g_iconst (v := (-1)) (by decide +kernel : decode prog_10_method_39_code 29 = .ok (.iconst (-1), 1)) (by decide) ?_
      exact g_iret hR (by decide +kernel : decode prog_10_method_39_code 30 = .ok (.ireturn, 1)) rfl ⟨_, rfl, ⟨by simp only [ofV, pz_of hI ho2, rg_none n14], Jk.self _ _ _⟩⟩
  · refine g_if_eqN (tgt := 29) (by decide +kernel : decode prog_10_method_39_code 5 = .ok (.ifCond .eq 24, 3)) (by decide) (by decide) (fun _ => ?_) (fun h => False.elim (by revert h; decide))
    refine g_iconst (v := (-1)) (by decide +kernel : decode prog_10_method_39_code 29 = .ok (.iconst (-1), 1)) (by decide) ?_
    exact g_iret hR (by decide +kernel : decode prog_10_method_39_code 30 = .ok (.ireturn, 1)) rfl ⟨_, rfl, ⟨by simp only [ofV, pz_none hI n2], Jk.self _ _ _⟩⟩
set_option maxRecDepth 20000 in
theorem p_does (σ : Store) (f b : Row) (hI : Inv f) (x y : Int32) : Ct ΛM mt_Md_does 2 [.ref 0, .int x, .int y] (mS σ f b) (mP σ (doesV f x y) f) := by
  refine Ct.of (by decide) (Nat.le_of_ble_eq_true rfl) (fun X hR => ?_)
  show G (ΛM, mt_Md_does, 2) X (mS σ f b) [some (.ref 0), some (.int x), some (.int y)] [] 0
  have hn8 := hI.n.2
  refine g_aload_n (by decide +kernel : decode prog_10_method_40_code 0 = .ok (.aload_n 0, 1)) rfl ?_
  refine g_iload_n (by decide +kernel : decode prog_10_method_40_code 1 = .ok (.iload_n 1, 1)) rfl ?_
  refine g_callVI [.int x] (by decide +kernel : decode prog_10_method_40_code 2 = .ok (.invokevirtual 172, 3)) lk_Md_172 (m_isOne (mS σ f b) x hI.n.1 (by omega)) rfl rfl rfl rfl (Nat.le_of_ble_eq_true rfl) (Nat.le_of_ble_eq_true rfl) (fun r2 s2 h2 => ?_)
  rcases h2 with ⟨rfl, ⟨rfl, o, ho2, rfl⟩ | ⟨rfl, n2⟩⟩
  · refine g_if_eqN (tgt := 20) (by decide +kernel : decode prog_10_method_40_code 5 = .ok (.ifCond .eq 15, 3)) (by decide) (by decide) (fun h => False.elim (by revert h; decide)) (fun _ => ?_)
    refine g_iload_n (by decide +kernel : decode prog_10_method_40_code 8 = .ok (.iload_n 2, 1)) rfl ?_
    refine g_i2l (by decide +kernel : decode prog_10_method_40_code 9 = .ok (.i2l, 1)) ?_
    refine g_lconst (v := lN 0) (by decide +kernel : decode prog_10_method_40_code 10 = .ok (.lconst 0, 1)) (by decide) ?_
    refine g_ldc2 (v := lN 2) (by decide +kernel : decode prog_10_method_40_code 11 = .ok (.ldc2_w 175, 3)) kc_Md_175 ?_
    refine g_callSI [.long (Int32.toInt64 y), .long (lN 0), .long (lN 2)] (by decide +kernel : decode prog_10_method_40_code 14 = .ok (.invokestatic 57, 3)) lk_Md_57 (m_isInN ΛM (mS σ f b) y 0 2) rfl rfl (Nat.le_of_ble_eq_true rfl) (Nat.le_of_ble_eq_true rfl) (fun r14 s14 h14 => ?_)
    rcases h14 with ⟨rfl, ⟨rfl, w, ha14, hb14, rfl⟩ | ⟨rfl, n14⟩⟩
    · refine g_if_neN (tgt := 22) (by decide +kernel : decode prog_10_method_40_code 17 = .ok (.ifCond .ne 5, 3)) (by decide) (by decide) (fun _ => ?_) (fun h => False.elim (by revert h; decide))
      rcases (show w = 0 ∨ w = 1 ∨ w = 2 by omega) with rfl | rfl | rfl
      · refine g_sipush (v := nI 1000) (by decide +kernel : decode prog_10_method_40_code 22 = .ok (.sipush 1000, 3)) (by decide) ?_
        refine g_iload_n (by decide +kernel : decode prog_10_method_40_code 25 = .ok (.iload_n 2, 1)) rfl ?_
        refine g_if_neN (tgt := 37) (by decide +kernel : decode prog_10_method_40_code 26 = .ok (.ifCond .ne 11, 3)) (by decide) (by decide) (fun h => False.elim (by revert h; decide)) (fun _ => ?_)
        refine g_aload_n (by decide +kernel : decode prog_10_method_40_code 29 = .ok (.aload_n 0, 1)) rfl ?_
        refine g_iload_n (by decide +kernel : decode prog_10_method_40_code 30 = .ok (.iload_n 1, 1)) rfl ?_
        refine g_callVI [.int (nI o)] (by decide +kernel : decode prog_10_method_40_code 31 = .ok (.invokevirtual 177, 3)) lk_Md_177 (m_hides σ f b hI o (by omega)) rfl rfl rfl rfl (Nat.le_of_ble_eq_true rfl) (Nat.le_of_ble_eq_true rfl) (fun r31 s31 h31 => ?_)
        obtain ⟨rfl, rfl⟩ := h31
        refine g_goto (tgt := 55) (by decide +kernel : decode prog_10_method_40_code 34 = .ok (.goto 21, 3)) (by decide) ?_
        refine g_iadd (by decide +kernel : decode prog_10_method_40_code 55 = .ok (.iadd, 1)) ?_
        exact g_iret hR (by decide +kernel : decode prog_10_method_40_code 56 = .ok (.ireturn, 1)) rfl ⟨_, rfl, ⟨by simp only [doesV, pz_of hI ho2, rg_of ha14 hb14], Jk.self _ _ _⟩⟩
      · refine g_sipush (v := nI 1000) (by decide +kernel : decode prog_10_method_40_code 22 = .ok (.sipush 1000, 3)) (by decide) ?_
        refine g_iload_n (by decide +kernel : decode prog_10_method_40_code 25 = .ok (.iload_n 2, 1)) rfl ?_
        refine g_if_neN (tgt := 37) (by decide +kernel : decode prog_10_method_40_code 26 = .ok (.ifCond .ne 11, 3)) (by decide) (by decide) (fun _ => ?_) (fun h => False.elim (by revert h; decide))
        refine g_iload_n (by decide +kernel : decode prog_10_method_40_code 37 = .ok (.iload_n 2, 1)) rfl ?_
        refine g_iconst (v := nI 1) (by decide +kernel : decode prog_10_method_40_code 38 = .ok (.iconst 1, 1)) (by decide) ?_
        refine g_icmp_neN (tgt := 50) (by decide +kernel : decode prog_10_method_40_code 39 = .ok (.if_icmp .ne 11, 3)) (by decide) (by decide) (by decide) (fun h => False.elim (by revert h; decide)) (fun _ => ?_)
        refine g_aload_n (by decide +kernel : decode prog_10_method_40_code 42 = .ok (.aload_n 0, 1)) rfl ?_
        refine g_iload_n (by decide +kernel : decode prog_10_method_40_code 43 = .ok (.iload_n 1, 1)) rfl ?_
        refine g_callVI [.int (nI o)] (by decide +kernel : decode prog_10_method_40_code 44 = .ok (.invokevirtual 180, 3)) lk_Md_180 (m_sees σ f b hI o (by omega)) rfl rfl rfl rfl (Nat.le_of_ble_eq_true rfl) (Nat.le_of_ble_eq_true rfl) (fun r44 s44 h44 => ?_)
        obtain ⟨rfl, rfl⟩ := h44
        refine g_goto (tgt := 55) (by decide +kernel : decode prog_10_method_40_code 47 = .ok (.goto 8, 3)) (by decide) ?_
        refine g_iadd (by decide +kernel : decode prog_10_method_40_code 55 = .ok (.iadd, 1)) ?_
        exact g_iret hR (by decide +kernel : decode prog_10_method_40_code 56 = .ok (.ireturn, 1)) rfl ⟨_, rfl, ⟨by simp only [doesV, pz_of hI ho2, rg_of ha14 hb14], Jk.self _ _ _⟩⟩
      · refine g_sipush (v := nI 1000) (by decide +kernel : decode prog_10_method_40_code 22 = .ok (.sipush 1000, 3)) (by decide) ?_
        refine g_iload_n (by decide +kernel : decode prog_10_method_40_code 25 = .ok (.iload_n 2, 1)) rfl ?_
        refine g_if_neN (tgt := 37) (by decide +kernel : decode prog_10_method_40_code 26 = .ok (.ifCond .ne 11, 3)) (by decide) (by decide) (fun _ => ?_) (fun h => False.elim (by revert h; decide))
        refine g_iload_n (by decide +kernel : decode prog_10_method_40_code 37 = .ok (.iload_n 2, 1)) rfl ?_
        refine g_iconst (v := nI 1) (by decide +kernel : decode prog_10_method_40_code 38 = .ok (.iconst 1, 1)) (by decide) ?_
        refine g_icmp_neN (tgt := 50) (by decide +kernel : decode prog_10_method_40_code 39 = .ok (.if_icmp .ne 11, 3)) (by decide) (by decide) (by decide) (fun _ => ?_) (fun h => False.elim (by revert h; decide))
        refine g_aload_n (by decide +kernel : decode prog_10_method_40_code 50 = .ok (.aload_n 0, 1)) rfl ?_
        refine g_iload_n (by decide +kernel : decode prog_10_method_40_code 51 = .ok (.iload_n 1, 1)) rfl ?_
        refine g_callVI [.int (nI o)] (by decide +kernel : decode prog_10_method_40_code 52 = .ok (.invokevirtual 183, 3)) lk_Md_183 (m_strides σ f b hI o (by omega)) rfl rfl rfl rfl (Nat.le_of_ble_eq_true rfl) (Nat.le_of_ble_eq_true rfl) (fun r52 s52 h52 => ?_)
        obtain ⟨rfl, rfl⟩ := h52
        refine g_iadd (by decide +kernel : decode prog_10_method_40_code 55 = .ok (.iadd, 1)) ?_
        exact g_iret hR (by decide +kernel : decode prog_10_method_40_code 56 = .ok (.ireturn, 1)) rfl ⟨_, rfl, ⟨by simp only [doesV, pz_of hI ho2, rg_of ha14 hb14], Jk.self _ _ _⟩⟩
    · refine g_if_neN (tgt := 22) (by decide +kernel : decode prog_10_method_40_code 17 = .ok (.ifCond .ne 5, 3)) (by decide) (by decide) (fun h => False.elim (by revert h; decide)) (fun _ => ?_)
      refine g_iconst (v := (-1)) (by decide +kernel : decode prog_10_method_40_code 20 = .ok (.iconst (-1), 1)) (by decide) ?_
      exact g_iret hR (by decide +kernel : decode prog_10_method_40_code 21 = .ok (.ireturn, 1)) rfl ⟨_, rfl, ⟨by simp only [doesV, pz_of hI ho2, rg_none n14], Jk.self _ _ _⟩⟩
  · refine g_if_eqN (tgt := 20) (by decide +kernel : decode prog_10_method_40_code 5 = .ok (.ifCond .eq 15, 3)) (by decide) (by decide) (fun _ => ?_) (fun h => False.elim (by revert h; decide))
    refine g_iconst (v := (-1)) (by decide +kernel : decode prog_10_method_40_code 20 = .ok (.iconst (-1), 1)) (by decide) ?_
    exact g_iret hR (by decide +kernel : decode prog_10_method_40_code 21 = .ok (.ireturn, 1)) rfl ⟨_, rfl, ⟨by simp only [doesV, pz_none hI n2], Jk.self _ _ _⟩⟩
set_option maxRecDepth 20000 in
theorem p_mind (σ : Store) (f b : Row) (hI : Inv f) (x y z : Int32) : Ct ΛM mt_Md_mind 1 [.ref 0, .int x, .int y, .int z] (mS σ f b) (mP σ (mindV f x y z) (mindT f x y z)) := by
  refine Ct.of (by decide) (Nat.le_of_ble_eq_true rfl) (fun X hR => ?_)
  show G (ΛM, mt_Md_mind, 1) X (mS σ f b) [some (.ref 0), some (.int x), some (.int y), some (.int z)] [] 0
  have hn8 := hI.n.2
  refine g_aload_n (by decide +kernel : decode prog_10_method_41_code 0 = .ok (.aload_n 0, 1)) rfl ?_
  refine g_iload_n (by decide +kernel : decode prog_10_method_41_code 1 = .ok (.iload_n 1, 1)) rfl ?_
  refine g_callVI [.int x] (by decide +kernel : decode prog_10_method_41_code 2 = .ok (.invokevirtual 172, 3)) lk_Md_172 (m_isOne (mS σ f b) x hI.n.1 (by omega)) rfl rfl rfl rfl (Nat.le_of_ble_eq_true rfl) (Nat.le_of_ble_eq_true rfl) (fun r2 s2 h2 => ?_)
  rcases h2 with ⟨rfl, ⟨rfl, o, ho2, rfl⟩ | ⟨rfl, n2⟩⟩
  · refine g_if_eqN (tgt := 32) (by decide +kernel : decode prog_10_method_41_code 5 = .ok (.ifCond .eq 27, 3)) (by decide) (by decide) (fun h => False.elim (by revert h; decide)) (fun _ => ?_)
    refine g_iload_n (by decide +kernel : decode prog_10_method_41_code 8 = .ok (.iload_n 2, 1)) rfl ?_
    refine g_i2l (by decide +kernel : decode prog_10_method_41_code 9 = .ok (.i2l, 1)) ?_
    refine g_lconst (v := lN 0) (by decide +kernel : decode prog_10_method_41_code 10 = .ok (.lconst 0, 1)) (by decide) ?_
    refine g_ldc2 (v := lN 5) (by decide +kernel : decode prog_10_method_41_code 11 = .ok (.ldc2_w 160, 3)) kc_Md_160 ?_
    refine g_callSI [.long (Int32.toInt64 y), .long (lN 0), .long (lN 5)] (by decide +kernel : decode prog_10_method_41_code 14 = .ok (.invokestatic 57, 3)) lk_Md_57 (m_isInN ΛM (mS σ f b) y 0 5) rfl rfl (Nat.le_of_ble_eq_true rfl) (Nat.le_of_ble_eq_true rfl) (fun r14 s14 h14 => ?_)
    rcases h14 with ⟨rfl, ⟨rfl, k, ha14, hb14, rfl⟩ | ⟨rfl, n14⟩⟩
    · refine g_if_eqN (tgt := 32) (by decide +kernel : decode prog_10_method_41_code 17 = .ok (.ifCond .eq 15, 3)) (by decide) (by decide) (fun h => False.elim (by revert h; decide)) (fun _ => ?_)
      refine g_iload_n (by decide +kernel : decode prog_10_method_41_code 20 = .ok (.iload_n 3, 1)) rfl ?_
      refine g_i2l (by decide +kernel : decode prog_10_method_41_code 21 = .ok (.i2l, 1)) ?_
      refine g_lconst (v := lN 0) (by decide +kernel : decode prog_10_method_41_code 22 = .ok (.lconst 0, 1)) (by decide) ?_
      refine g_ldc2 (v := lN 9) (by decide +kernel : decode prog_10_method_41_code 23 = .ok (.ldc2_w 164, 3)) kc_Md_164 ?_
      refine g_callSI [.long (Int32.toInt64 z), .long (lN 0), .long (lN 9)] (by decide +kernel : decode prog_10_method_41_code 26 = .ok (.invokestatic 57, 3)) lk_Md_57 (m_isInN ΛM (mS σ f b) z 0 9) rfl rfl (Nat.le_of_ble_eq_true rfl) (Nat.le_of_ble_eq_true rfl) (fun r26 s26 h26 => ?_)
      rcases h26 with ⟨rfl, ⟨rfl, w, ha26, hb26, rfl⟩ | ⟨rfl, n26⟩⟩
      · refine g_if_neN (tgt := 34) (by decide +kernel : decode prog_10_method_41_code 29 = .ok (.ifCond .ne 5, 3)) (by decide) (by decide) (fun _ => ?_) (fun h => False.elim (by revert h; decide))
        refine g_aload_n (by decide +kernel : decode prog_10_method_41_code 34 = .ok (.aload_n 0, 1)) rfl ?_
        refine g_getR (by decide +kernel : decode prog_10_method_41_code 35 = .ok (.getfield 7, 3)) fl_Md_7 rfl rfl ?_
        refine g_bipush (v := nI 19) (by decide +kernel : decode prog_10_method_41_code 38 = .ok (.bipush 19, 2)) (by decide) ?_
        refine g_bipush (v := nI 6) (by decide +kernel : decode prog_10_method_41_code 40 = .ok (.bipush 6, 2)) (by decide) ?_
        refine g_iload_n (by decide +kernel : decode prog_10_method_41_code 42 = .ok (.iload_n 1, 1)) rfl ?_
        refine g_imulN (by decide +kernel : decode prog_10_method_41_code 43 = .ok (.imul, 1)) ?_
        refine g_iaddN (by decide +kernel : decode prog_10_method_41_code 44 = .ok (.iadd, 1)) ?_
        refine g_iconst (v := nI 2) (by decide +kernel : decode prog_10_method_41_code 45 = .ok (.iconst 2, 1)) (by decide) ?_
        refine g_iaddN (by decide +kernel : decode prog_10_method_41_code 46 = .ok (.iadd, 1)) ?_
        refine g_iload_n (by decide +kernel : decode prog_10_method_41_code 47 = .ok (.iload_n 3, 1)) rfl ?_
        refine g_iastore (a := 19 + 6 * o + 2) (by decide +kernel : decode prog_10_method_41_code 48 = .ok (.iastore, 1)) rfl rfl (by omega) (by decide) ?_
        refine g_sto (mS_u1 _ _ _ _ _) ?_
        refine g_aload_n (by decide +kernel : decode prog_10_method_41_code 49 = .ok (.aload_n 0, 1)) rfl ?_
        refine g_bipush (v := nI 19) (by decide +kernel : decode prog_10_method_41_code 50 = .ok (.bipush 19, 2)) (by decide) ?_
        refine g_bipush (v := nI 6) (by decide +kernel : decode prog_10_method_41_code 52 = .ok (.bipush 6, 2)) (by decide) ?_
        refine g_iload_n (by decide +kernel : decode prog_10_method_41_code 54 = .ok (.iload_n 1, 1)) rfl ?_
        refine g_imulN (by decide +kernel : decode prog_10_method_41_code 55 = .ok (.imul, 1)) ?_
        refine g_iaddN (by decide +kernel : decode prog_10_method_41_code 56 = .ok (.iadd, 1)) ?_
        refine g_iload_n (by decide +kernel : decode prog_10_method_41_code 57 = .ok (.iload_n 2, 1)) rfl ?_
        refine g_callVI [.int (nI (19 + 6 * o)), .int (nI k)] (by decide +kernel : decode prog_10_method_41_code 58 = .ok (.invokevirtual 156, 3)) lk_Md_156 (m_becomes (mS σ (upd f (19 + 6 * o + 2) (nI w)) b) (19 + 6 * o) (nI k) (v := (upd f (19 + 6 * o + 2) (nI w)) (19 + 6 * o)) rfl (by omega)) rfl rfl rfl rfl (Nat.le_of_ble_eq_true rfl) (Nat.le_of_ble_eq_true rfl) (fun r58 s58 h58 => ?_)
        obtain ⟨rfl, rfl⟩ := h58
        refine g_sto (mS_u1 _ _ _ _ _) ?_
        exact g_iret hR (by decide +kernel : decode prog_10_method_41_code 61 = .ok (.ireturn, 1)) rfl ⟨_, rfl, ⟨by simp only [mindV, pz_of hI ho2, rg_of ha14 hb14, rg_of ha26 hb26]; exact upd_n (by omega), by simp only [mindT, pz_of hI ho2, rg_of ha14 hb14, rg_of ha26 hb26]; exact Jk.self _ _ _⟩⟩
      · refine g_if_neN (tgt := 34) (by decide +kernel : decode prog_10_method_41_code 29 = .ok (.ifCond .ne 5, 3)) (by decide) (by decide) (fun h => False.elim (by revert h; decide)) (fun _ => ?_)
        refine g_iconst (v := (-1)) (by decide +kernel : decode prog_10_method_41_code 32 = .ok (.iconst (-1), 1)) (by decide) ?_
        exact g_iret hR (by decide +kernel : decode prog_10_method_41_code 33 = .ok (.ireturn, 1)) rfl ⟨_, rfl, ⟨by simp only [mindV, pz_of hI ho2, rg_of ha14 hb14, rg_none n26], by simp only [mindT, pz_of hI ho2, rg_of ha14 hb14, rg_none n26]; exact Jk.self _ _ _⟩⟩
    · refine g_if_eqN (tgt := 32) (by decide +kernel : decode prog_10_method_41_code 17 = .ok (.ifCond .eq 15, 3)) (by decide) (by decide) (fun _ => ?_) (fun h => False.elim (by revert h; decide))
      refine g_iconst (v := (-1)) (by decide +kernel : decode prog_10_method_41_code 32 = .ok (.iconst (-1), 1)) (by decide) ?_
      exact g_iret hR (by decide +kernel : decode prog_10_method_41_code 33 = .ok (.ireturn, 1)) rfl ⟨_, rfl, ⟨by simp only [mindV, pz_of hI ho2, rg_none n14], by simp only [mindT, pz_of hI ho2, rg_none n14]; exact Jk.self _ _ _⟩⟩
  · refine g_if_eqN (tgt := 32) (by decide +kernel : decode prog_10_method_41_code 5 = .ok (.ifCond .eq 27, 3)) (by decide) (by decide) (fun _ => ?_) (fun h => False.elim (by revert h; decide))
    refine g_iconst (v := (-1)) (by decide +kernel : decode prog_10_method_41_code 32 = .ok (.iconst (-1), 1)) (by decide) ?_
    exact g_iret hR (by decide +kernel : decode prog_10_method_41_code 33 = .ok (.ireturn, 1)) rfl ⟨_, rfl, ⟨by simp only [mindV, pz_none hI n2], by simp only [mindT, pz_none hI n2]; exact Jk.self _ _ _⟩⟩
set_option maxRecDepth 20000 in
theorem p_age (σ : Store) (f b : Row) (hI : Inv f) (x y : Int32) : Ct ΛM mt_Md_age 1 [.ref 0, .int x, .int y] (mS σ f b) (mP σ (oneV 1 99 f x y) (oneT 1 99 f x y)) := by
  refine Ct.of (by decide) (Nat.le_of_ble_eq_true rfl) (fun X hR => ?_)
  show G (ΛM, mt_Md_age, 1) X (mS σ f b) [some (.ref 0), some (.int x), some (.int y)] [] 0
  have hn8 := hI.n.2
  refine g_aload_n (by decide +kernel : decode prog_10_method_42_code 0 = .ok (.aload_n 0, 1)) rfl ?_
  refine g_iload_n (by decide +kernel : decode prog_10_method_42_code 1 = .ok (.iload_n 1, 1)) rfl ?_
  refine g_callVI [.int x] (by decide +kernel : decode prog_10_method_42_code 2 = .ok (.invokevirtual 172, 3)) lk_Md_172 (m_isOne (mS σ f b) x hI.n.1 (by omega)) rfl rfl rfl rfl (Nat.le_of_ble_eq_true rfl) (Nat.le_of_ble_eq_true rfl) (fun r2 s2 h2 => ?_)
  rcases h2 with ⟨rfl, ⟨rfl, o, ho2, rfl⟩ | ⟨rfl, n2⟩⟩
  · refine g_if_eqN (tgt := 37) (by decide +kernel : decode prog_10_method_42_code 5 = .ok (.ifCond .eq 32, 3)) (by decide) (by decide) (fun h => False.elim (by revert h; decide)) (fun _ => ?_)
    refine g_iload_n (by decide +kernel : decode prog_10_method_42_code 8 = .ok (.iload_n 2, 1)) rfl ?_
    refine g_i2l (by decide +kernel : decode prog_10_method_42_code 9 = .ok (.i2l, 1)) ?_
    refine g_lconst (v := lN 0) (by decide +kernel : decode prog_10_method_42_code 10 = .ok (.lconst 0, 1)) (by decide) ?_
    refine g_ldc2 (v := lN 99) (by decide +kernel : decode prog_10_method_42_code 11 = .ok (.ldc2_w 162, 3)) kc_Md_162 ?_
    refine g_callSI [.long (Int32.toInt64 y), .long (lN 0), .long (lN 99)] (by decide +kernel : decode prog_10_method_42_code 14 = .ok (.invokestatic 57, 3)) lk_Md_57 (m_isInN ΛM (mS σ f b) y 0 99) rfl rfl (Nat.le_of_ble_eq_true rfl) (Nat.le_of_ble_eq_true rfl) (fun r14 s14 h14 => ?_)
    rcases h14 with ⟨rfl, ⟨rfl, v, ha14, hb14, rfl⟩ | ⟨rfl, n14⟩⟩
    · refine g_if_eqN (tgt := 37) (by decide +kernel : decode prog_10_method_42_code 17 = .ok (.ifCond .eq 20, 3)) (by decide) (by decide) (fun h => False.elim (by revert h; decide)) (fun _ => ?_)
      refine g_aload_n (by decide +kernel : decode prog_10_method_42_code 20 = .ok (.aload_n 0, 1)) rfl ?_
      refine g_bipush (v := nI 19) (by decide +kernel : decode prog_10_method_42_code 21 = .ok (.bipush 19, 2)) (by decide) ?_
      refine g_bipush (v := nI 6) (by decide +kernel : decode prog_10_method_42_code 23 = .ok (.bipush 6, 2)) (by decide) ?_
      refine g_iload_n (by decide +kernel : decode prog_10_method_42_code 25 = .ok (.iload_n 1, 1)) rfl ?_
      refine g_imulN (by decide +kernel : decode prog_10_method_42_code 26 = .ok (.imul, 1)) ?_
      refine g_iaddN (by decide +kernel : decode prog_10_method_42_code 27 = .ok (.iadd, 1)) ?_
      refine g_iconst (v := nI 1) (by decide +kernel : decode prog_10_method_42_code 28 = .ok (.iconst 1, 1)) (by decide) ?_
      refine g_iaddN (by decide +kernel : decode prog_10_method_42_code 29 = .ok (.iadd, 1)) ?_
      refine g_iload_n (by decide +kernel : decode prog_10_method_42_code 30 = .ok (.iload_n 2, 1)) rfl ?_
      refine g_callVI [.int (nI (19 + 6 * o + 1)), .int (nI v)] (by decide +kernel : decode prog_10_method_42_code 31 = .ok (.invokevirtual 156, 3)) lk_Md_156 (m_becomes (mS σ f b) (19 + 6 * o + 1) (nI v) (v := f (19 + 6 * o + 1)) rfl (by omega)) rfl rfl rfl rfl (Nat.le_of_ble_eq_true rfl) (Nat.le_of_ble_eq_true rfl) (fun r31 s31 h31 => ?_)
      obtain ⟨rfl, rfl⟩ := h31
      refine g_sto (mS_u1 _ _ _ _ _) ?_
      refine g_goto (tgt := 38) (by decide +kernel : decode prog_10_method_42_code 34 = .ok (.goto 4, 3)) (by decide) ?_
      exact g_iret hR (by decide +kernel : decode prog_10_method_42_code 38 = .ok (.ireturn, 1)) rfl ⟨_, rfl, ⟨by simp only [oneV, pz_of hI ho2, rg_of ha14 hb14], by simp only [oneT, pz_of hI ho2, rg_of ha14 hb14]; exact Jk.self _ _ _⟩⟩
    · refine g_if_eqN (tgt := 37) (by decide +kernel : decode prog_10_method_42_code 17 = .ok (.ifCond .eq 20, 3)) (by decide) (by decide) (fun _ => ?_) (fun h => False.elim (by revert h; decide))
      refine g_iconst (v := (-1)) (by decide +kernel : decode prog_10_method_42_code 37 = .ok (.iconst (-1), 1)) (by decide) ?_
      exact g_iret hR (by decide +kernel : decode prog_10_method_42_code 38 = .ok (.ireturn, 1)) rfl ⟨_, rfl, ⟨by simp only [oneV, pz_of hI ho2, rg_none n14], by simp only [oneT, pz_of hI ho2, rg_none n14]; exact Jk.self _ _ _⟩⟩
  · refine g_if_eqN (tgt := 37) (by decide +kernel : decode prog_10_method_42_code 5 = .ok (.ifCond .eq 32, 3)) (by decide) (by decide) (fun _ => ?_) (fun h => False.elim (by revert h; decide))
    refine g_iconst (v := (-1)) (by decide +kernel : decode prog_10_method_42_code 37 = .ok (.iconst (-1), 1)) (by decide) ?_
    exact g_iret hR (by decide +kernel : decode prog_10_method_42_code 38 = .ok (.ireturn, 1)) rfl ⟨_, rfl, ⟨by simp only [oneV, pz_none hI n2], by simp only [oneT, pz_none hI n2]; exact Jk.self _ _ _⟩⟩
set_option maxRecDepth 20000 in
theorem p_bring (σ : Store) (f b : Row) (hI : Inv f) (x y : Int32) : Ct ΛM mt_Md_bring 1 [.ref 0, .int x, .int y] (mS σ f b) (mP σ (oneV 3 11 f x y) (oneT 3 11 f x y)) := by
  refine Ct.of (by decide) (Nat.le_of_ble_eq_true rfl) (fun X hR => ?_)
  show G (ΛM, mt_Md_bring, 1) X (mS σ f b) [some (.ref 0), some (.int x), some (.int y)] [] 0
  have hn8 := hI.n.2
  refine g_aload_n (by decide +kernel : decode prog_10_method_43_code 0 = .ok (.aload_n 0, 1)) rfl ?_
  refine g_iload_n (by decide +kernel : decode prog_10_method_43_code 1 = .ok (.iload_n 1, 1)) rfl ?_
  refine g_callVI [.int x] (by decide +kernel : decode prog_10_method_43_code 2 = .ok (.invokevirtual 172, 3)) lk_Md_172 (m_isOne (mS σ f b) x hI.n.1 (by omega)) rfl rfl rfl rfl (Nat.le_of_ble_eq_true rfl) (Nat.le_of_ble_eq_true rfl) (fun r2 s2 h2 => ?_)
  rcases h2 with ⟨rfl, ⟨rfl, o, ho2, rfl⟩ | ⟨rfl, n2⟩⟩
  · refine g_if_eqN (tgt := 32) (by decide +kernel : decode prog_10_method_43_code 5 = .ok (.ifCond .eq 27, 3)) (by decide) (by decide) (fun h => False.elim (by revert h; decide)) (fun _ => ?_)
    refine g_iload_n (by decide +kernel : decode prog_10_method_43_code 8 = .ok (.iload_n 2, 1)) rfl ?_
    refine g_callSI [.int y] (by decide +kernel : decode prog_10_method_43_code 9 = .ok (.invokestatic 166, 3)) lk_Md_166 (m_isPlace ΛM (mS σ f b) y) rfl rfl (Nat.le_of_ble_eq_true rfl) (Nat.le_of_ble_eq_true rfl) (fun r9 s9 h9 => ?_)
    rcases h9 with ⟨rfl, ⟨rfl, v, hp9, rfl⟩ | ⟨rfl, n9⟩⟩
    · refine g_if_eqN (tgt := 32) (by decide +kernel : decode prog_10_method_43_code 12 = .ok (.ifCond .eq 20, 3)) (by decide) (by decide) (fun h => False.elim (by revert h; decide)) (fun _ => ?_)
      refine g_aload_n (by decide +kernel : decode prog_10_method_43_code 15 = .ok (.aload_n 0, 1)) rfl ?_
      refine g_bipush (v := nI 19) (by decide +kernel : decode prog_10_method_43_code 16 = .ok (.bipush 19, 2)) (by decide) ?_
      refine g_bipush (v := nI 6) (by decide +kernel : decode prog_10_method_43_code 18 = .ok (.bipush 6, 2)) (by decide) ?_
      refine g_iload_n (by decide +kernel : decode prog_10_method_43_code 20 = .ok (.iload_n 1, 1)) rfl ?_
      refine g_imulN (by decide +kernel : decode prog_10_method_43_code 21 = .ok (.imul, 1)) ?_
      refine g_iaddN (by decide +kernel : decode prog_10_method_43_code 22 = .ok (.iadd, 1)) ?_
      refine g_iconst (v := nI 3) (by decide +kernel : decode prog_10_method_43_code 23 = .ok (.iconst 3, 1)) (by decide) ?_
      refine g_iaddN (by decide +kernel : decode prog_10_method_43_code 24 = .ok (.iadd, 1)) ?_
      refine g_iload_n (by decide +kernel : decode prog_10_method_43_code 25 = .ok (.iload_n 2, 1)) rfl ?_
      refine g_callVI [.int (nI (19 + 6 * o + 3)), .int (nI v)] (by decide +kernel : decode prog_10_method_43_code 26 = .ok (.invokevirtual 156, 3)) lk_Md_156 (m_becomes (mS σ f b) (19 + 6 * o + 3) (nI v) (v := f (19 + 6 * o + 3)) rfl (by omega)) rfl rfl rfl rfl (Nat.le_of_ble_eq_true rfl) (Nat.le_of_ble_eq_true rfl) (fun r26 s26 h26 => ?_)
      obtain ⟨rfl, rfl⟩ := h26
      refine g_sto (mS_u1 _ _ _ _ _) ?_
      refine g_goto (tgt := 33) (by decide +kernel : decode prog_10_method_43_code 29 = .ok (.goto 4, 3)) (by decide) ?_
      exact g_iret hR (by decide +kernel : decode prog_10_method_43_code 33 = .ok (.ireturn, 1)) rfl ⟨_, rfl, ⟨by simp only [oneV, pz_of hI ho2, pl_of hp9], by simp only [oneT, pz_of hI ho2, pl_of hp9]; exact Jk.self _ _ _⟩⟩
    · refine g_if_eqN (tgt := 32) (by decide +kernel : decode prog_10_method_43_code 12 = .ok (.ifCond .eq 20, 3)) (by decide) (by decide) (fun _ => ?_) (fun h => False.elim (by revert h; decide))
      refine g_iconst (v := (-1)) (by decide +kernel : decode prog_10_method_43_code 32 = .ok (.iconst (-1), 1)) (by decide) ?_
      exact g_iret hR (by decide +kernel : decode prog_10_method_43_code 33 = .ok (.ireturn, 1)) rfl ⟨_, rfl, ⟨by simp only [oneV, pz_of hI ho2, pl_none n9], by simp only [oneT, pz_of hI ho2, pl_none n9]; exact Jk.self _ _ _⟩⟩
  · refine g_if_eqN (tgt := 32) (by decide +kernel : decode prog_10_method_43_code 5 = .ok (.ifCond .eq 27, 3)) (by decide) (by decide) (fun _ => ?_) (fun h => False.elim (by revert h; decide))
    refine g_iconst (v := (-1)) (by decide +kernel : decode prog_10_method_43_code 32 = .ok (.iconst (-1), 1)) (by decide) ?_
    exact g_iret hR (by decide +kernel : decode prog_10_method_43_code 33 = .ok (.ireturn, 1)) rfl ⟨_, rfl, ⟨by simp only [oneV, pz_none hI n2], by simp only [oneT, pz_none hI n2]; exact Jk.self _ _ _⟩⟩
set_option maxRecDepth 20000 in
theorem p_seek (σ : Store) (f b : Row) (hI : Inv f) (x y : Int32) : Ct ΛM mt_Md_seek 1 [.ref 0, .int x, .int y] (mS σ f b) (mP σ (seekV f x y) (seekT f x y)) := by
  refine Ct.of (by decide) (Nat.le_of_ble_eq_true rfl) (fun X hR => ?_)
  show G (ΛM, mt_Md_seek, 1) X (mS σ f b) [some (.ref 0), some (.int x), some (.int y)] [] 0
  have hn8 := hI.n.2
  refine g_aload_n (by decide +kernel : decode prog_10_method_44_code 0 = .ok (.aload_n 0, 1)) rfl ?_
  refine g_iload_n (by decide +kernel : decode prog_10_method_44_code 1 = .ok (.iload_n 1, 1)) rfl ?_
  refine g_callVI [.int x] (by decide +kernel : decode prog_10_method_44_code 2 = .ok (.invokevirtual 172, 3)) lk_Md_172 (m_isOne (mS σ f b) x hI.n.1 (by omega)) rfl rfl rfl rfl (Nat.le_of_ble_eq_true rfl) (Nat.le_of_ble_eq_true rfl) (fun r2 s2 h2 => ?_)
  rcases h2 with ⟨rfl, ⟨rfl, o, ho2, rfl⟩ | ⟨rfl, n2⟩⟩
  · refine g_if_eqN (tgt := 39) (by decide +kernel : decode prog_10_method_44_code 5 = .ok (.ifCond .eq 34, 3)) (by decide) (by decide) (fun h => False.elim (by revert h; decide)) (fun _ => ?_)
    refine g_iload_n (by decide +kernel : decode prog_10_method_44_code 8 = .ok (.iload_n 2, 1)) rfl ?_
    refine g_i2l (by decide +kernel : decode prog_10_method_44_code 9 = .ok (.i2l, 1)) ?_
    refine g_lconst (v := lN 0) (by decide +kernel : decode prog_10_method_44_code 10 = .ok (.lconst 0, 1)) (by decide) ?_
    refine g_lconst (v := lN 1) (by decide +kernel : decode prog_10_method_44_code 11 = .ok (.lconst 1, 1)) (by decide) ?_
    refine g_callSI [.long (Int32.toInt64 y), .long (lN 0), .long (lN 1)] (by decide +kernel : decode prog_10_method_44_code 12 = .ok (.invokestatic 57, 3)) lk_Md_57 (m_isInN ΛM (mS σ f b) y 0 1) rfl rfl (Nat.le_of_ble_eq_true rfl) (Nat.le_of_ble_eq_true rfl) (fun r12 s12 h12 => ?_)
    rcases h12 with ⟨rfl, ⟨rfl, v, ha12, hb12, rfl⟩ | ⟨rfl, n12⟩⟩
    · refine g_if_eqN (tgt := 39) (by decide +kernel : decode prog_10_method_44_code 15 = .ok (.ifCond .eq 24, 3)) (by decide) (by decide) (fun h => False.elim (by revert h; decide)) (fun _ => ?_)
      refine g_iconst (v := nI 1) (by decide +kernel : decode prog_10_method_44_code 18 = .ok (.iconst 1, 1)) (by decide) ?_
      refine g_aload_n (by decide +kernel : decode prog_10_method_44_code 19 = .ok (.aload_n 0, 1)) rfl ?_
      refine g_bipush (v := nI 19) (by decide +kernel : decode prog_10_method_44_code 20 = .ok (.bipush 19, 2)) (by decide) ?_
      refine g_bipush (v := nI 6) (by decide +kernel : decode prog_10_method_44_code 22 = .ok (.bipush 6, 2)) (by decide) ?_
      refine g_iload_n (by decide +kernel : decode prog_10_method_44_code 24 = .ok (.iload_n 1, 1)) rfl ?_
      refine g_imulN (by decide +kernel : decode prog_10_method_44_code 25 = .ok (.imul, 1)) ?_
      refine g_iaddN (by decide +kernel : decode prog_10_method_44_code 26 = .ok (.iadd, 1)) ?_
      refine g_iconst (v := nI 4) (by decide +kernel : decode prog_10_method_44_code 27 = .ok (.iconst 4, 1)) (by decide) ?_
      refine g_iaddN (by decide +kernel : decode prog_10_method_44_code 28 = .ok (.iadd, 1)) ?_
      refine g_iconst (v := nI 1) (by decide +kernel : decode prog_10_method_44_code 29 = .ok (.iconst 1, 1)) (by decide) ?_
      refine g_iload_n (by decide +kernel : decode prog_10_method_44_code 30 = .ok (.iload_n 2, 1)) rfl ?_
      refine g_isubN (by decide +kernel : decode prog_10_method_44_code 31 = .ok (.isub, 1)) (by omega) ?_
      refine g_callVI [.int (nI (19 + 6 * o + 4)), .int (nI (1 - v))] (by decide +kernel : decode prog_10_method_44_code 32 = .ok (.invokevirtual 156, 3)) lk_Md_156 (m_becomes (mS σ f b) (19 + 6 * o + 4) (nI (1 - v)) (v := f (19 + 6 * o + 4)) rfl (by omega)) rfl rfl rfl rfl (Nat.le_of_ble_eq_true rfl) (Nat.le_of_ble_eq_true rfl) (fun r32 s32 h32 => ?_)
      obtain ⟨rfl, rfl⟩ := h32
      refine g_sto (mS_u1 _ _ _ _ _) ?_
      refine g_isub (by decide +kernel : decode prog_10_method_44_code 35 = .ok (.isub, 1)) ?_
      refine g_goto (tgt := 40) (by decide +kernel : decode prog_10_method_44_code 36 = .ok (.goto 4, 3)) (by decide) ?_
      exact g_iret hR (by decide +kernel : decode prog_10_method_44_code 40 = .ok (.ireturn, 1)) rfl ⟨_, rfl, ⟨by simp only [seekV, pz_of hI ho2, rg_of ha12 hb12], by simp only [seekT, pz_of hI ho2, rg_of ha12 hb12]; exact Jk.self _ _ _⟩⟩
    · refine g_if_eqN (tgt := 39) (by decide +kernel : decode prog_10_method_44_code 15 = .ok (.ifCond .eq 24, 3)) (by decide) (by decide) (fun _ => ?_) (fun h => False.elim (by revert h; decide))
      refine g_iconst (v := (-1)) (by decide +kernel : decode prog_10_method_44_code 39 = .ok (.iconst (-1), 1)) (by decide) ?_
      exact g_iret hR (by decide +kernel : decode prog_10_method_44_code 40 = .ok (.ireturn, 1)) rfl ⟨_, rfl, ⟨by simp only [seekV, pz_of hI ho2, rg_none n12], by simp only [seekT, pz_of hI ho2, rg_none n12]; exact Jk.self _ _ _⟩⟩
  · refine g_if_eqN (tgt := 39) (by decide +kernel : decode prog_10_method_44_code 5 = .ok (.ifCond .eq 34, 3)) (by decide) (by decide) (fun _ => ?_) (fun h => False.elim (by revert h; decide))
    refine g_iconst (v := (-1)) (by decide +kernel : decode prog_10_method_44_code 39 = .ok (.iconst (-1), 1)) (by decide) ?_
    exact g_iret hR (by decide +kernel : decode prog_10_method_44_code 40 = .ok (.ireturn, 1)) rfl ⟨_, rfl, ⟨by simp only [seekV, pz_none hI n2], by simp only [seekT, pz_none hI n2]; exact Jk.self _ _ _⟩⟩
set_option maxRecDepth 20000 in
theorem p_cover (σ : Store) (f b : Row) (hI : Inv f) (x y : Int32) : Ct ΛM mt_Md_cover 1 [.ref 0, .int x, .int y] (mS σ f b) (mP σ (coverV f x y) (coverT f x y)) := by
  refine Ct.of (by decide) (Nat.le_of_ble_eq_true rfl) (fun X hR => ?_)
  show G (ΛM, mt_Md_cover, 1) X (mS σ f b) [some (.ref 0), some (.int x), some (.int y)] [] 0
  have hn8 := hI.n.2
  refine g_iload_n (by decide +kernel : decode prog_10_method_48_code 0 = .ok (.iload_n 1, 1)) rfl ?_
  refine g_callSI [.int x] (by decide +kernel : decode prog_10_method_48_code 1 = .ok (.invokestatic 166, 3)) lk_Md_166 (m_isPlace ΛM (mS σ f b) x) rfl rfl (Nat.le_of_ble_eq_true rfl) (Nat.le_of_ble_eq_true rfl) (fun r1 s1 h1 => ?_)
  rcases h1 with ⟨rfl, ⟨rfl, p, hp1, rfl⟩ | ⟨rfl, n1⟩⟩
  · refine g_if_eqN (tgt := 31) (by decide +kernel : decode prog_10_method_48_code 4 = .ok (.ifCond .eq 27, 3)) (by decide) (by decide) (fun h => False.elim (by revert h; decide)) (fun _ => ?_)
    refine g_iload_n (by decide +kernel : decode prog_10_method_48_code 7 = .ok (.iload_n 2, 1)) rfl ?_
    refine g_i2l (by decide +kernel : decode prog_10_method_48_code 8 = .ok (.i2l, 1)) ?_
    refine g_lconst (v := lN 0) (by decide +kernel : decode prog_10_method_48_code 9 = .ok (.lconst 0, 1)) (by decide) ?_
    refine g_ldc2 (v := lN 9) (by decide +kernel : decode prog_10_method_48_code 10 = .ok (.ldc2_w 164, 3)) kc_Md_164 ?_
    refine g_callSI [.long (Int32.toInt64 y), .long (lN 0), .long (lN 9)] (by decide +kernel : decode prog_10_method_48_code 13 = .ok (.invokestatic 57, 3)) lk_Md_57 (m_isInN ΛM (mS σ f b) y 0 9) rfl rfl (Nat.le_of_ble_eq_true rfl) (Nat.le_of_ble_eq_true rfl) (fun r13 s13 h13 => ?_)
    rcases h13 with ⟨rfl, ⟨rfl, v, ha13, hb13, rfl⟩ | ⟨rfl, n13⟩⟩
    · refine g_if_eqN (tgt := 31) (by decide +kernel : decode prog_10_method_48_code 16 = .ok (.ifCond .eq 15, 3)) (by decide) (by decide) (fun h => False.elim (by revert h; decide)) (fun _ => ?_)
      refine g_aload_n (by decide +kernel : decode prog_10_method_48_code 19 = .ok (.aload_n 0, 1)) rfl ?_
      refine g_bipush (v := nI 7) (by decide +kernel : decode prog_10_method_48_code 20 = .ok (.bipush 7, 2)) (by decide) ?_
      refine g_iload_n (by decide +kernel : decode prog_10_method_48_code 22 = .ok (.iload_n 1, 1)) rfl ?_
      refine g_iaddN (by decide +kernel : decode prog_10_method_48_code 23 = .ok (.iadd, 1)) ?_
      refine g_iload_n (by decide +kernel : decode prog_10_method_48_code 24 = .ok (.iload_n 2, 1)) rfl ?_
      refine g_callVI [.int (nI (7 + p)), .int (nI v)] (by decide +kernel : decode prog_10_method_48_code 25 = .ok (.invokevirtual 156, 3)) lk_Md_156 (m_becomes (mS σ f b) (7 + p) (nI v) (v := f (7 + p)) rfl (by omega)) rfl rfl rfl rfl (Nat.le_of_ble_eq_true rfl) (Nat.le_of_ble_eq_true rfl) (fun r25 s25 h25 => ?_)
      obtain ⟨rfl, rfl⟩ := h25
      refine g_sto (mS_u1 _ _ _ _ _) ?_
      refine g_goto (tgt := 32) (by decide +kernel : decode prog_10_method_48_code 28 = .ok (.goto 4, 3)) (by decide) ?_
      exact g_iret hR (by decide +kernel : decode prog_10_method_48_code 32 = .ok (.ireturn, 1)) rfl ⟨_, rfl, ⟨by simp only [coverV, pl_of hp1, rg_of ha13 hb13], by simp only [coverT, pl_of hp1, rg_of ha13 hb13]; exact Jk.self _ _ _⟩⟩
    · refine g_if_eqN (tgt := 31) (by decide +kernel : decode prog_10_method_48_code 16 = .ok (.ifCond .eq 15, 3)) (by decide) (by decide) (fun _ => ?_) (fun h => False.elim (by revert h; decide))
      refine g_iconst (v := (-1)) (by decide +kernel : decode prog_10_method_48_code 31 = .ok (.iconst (-1), 1)) (by decide) ?_
      exact g_iret hR (by decide +kernel : decode prog_10_method_48_code 32 = .ok (.ireturn, 1)) rfl ⟨_, rfl, ⟨by simp only [coverV, pl_of hp1, rg_none n13], by simp only [coverT, pl_of hp1, rg_none n13]; exact Jk.self _ _ _⟩⟩
  · refine g_if_eqN (tgt := 31) (by decide +kernel : decode prog_10_method_48_code 4 = .ok (.ifCond .eq 27, 3)) (by decide) (by decide) (fun _ => ?_) (fun h => False.elim (by revert h; decide))
    refine g_iconst (v := (-1)) (by decide +kernel : decode prog_10_method_48_code 31 = .ok (.iconst (-1), 1)) (by decide) ?_
    exact g_iret hR (by decide +kernel : decode prog_10_method_48_code 32 = .ok (.ireturn, 1)) rfl ⟨_, rfl, ⟨by simp only [coverV, pl_none n1], by simp only [coverT, pl_none n1]; exact Jk.self _ _ _⟩⟩
set_option maxRecDepth 20000 in
theorem p_seed (σ : Store) (f b : Row) (hI : Inv f) (x : Int32) : Ct ΛM mt_Md_seed 1 [.ref 0, .int x] (mS σ f b) (mP σ (f 2) (upd f 2 x)) := by
  refine Ct.of (by decide) (Nat.le_of_ble_eq_true rfl) (fun X hR => ?_)
  show G (ΛM, mt_Md_seed, 1) X (mS σ f b) [some (.ref 0), some (.int x)] [] 0
  have hn8 := hI.n.2
  refine g_aload_n (by decide +kernel : decode prog_10_method_53_code 0 = .ok (.aload_n 0, 1)) rfl ?_
  refine g_iconst (v := nI 2) (by decide +kernel : decode prog_10_method_53_code 1 = .ok (.iconst 2, 1)) (by decide) ?_
  refine g_iload_n (by decide +kernel : decode prog_10_method_53_code 2 = .ok (.iload_n 1, 1)) rfl ?_
  refine g_callVI [.int (nI 2), .int x] (by decide +kernel : decode prog_10_method_53_code 3 = .ok (.invokevirtual 156, 3)) lk_Md_156 (m_becomes (mS σ f b) 2 x (v := f 2) rfl (by omega)) rfl rfl rfl rfl (Nat.le_of_ble_eq_true rfl) (Nat.le_of_ble_eq_true rfl) (fun r3 s3 h3 => ?_)
  obtain ⟨rfl, rfl⟩ := h3
  refine g_sto (mS_u1 _ _ _ _ _) ?_
  exact g_iret hR (by decide +kernel : decode prog_10_method_53_code 6 = .ok (.ireturn, 1)) rfl ⟨_, rfl, ⟨rfl, Jk.self _ _ _⟩⟩
set_option maxRecDepth 20000 in
theorem p_place (σ : Store) (f b : Row) (hI : Inv f) (x y : Int32) : Ct ΛM mt_Md_place 2 [.ref 0, .int x, .int y] (mS σ f b) (mP σ (placeV f x y) f) := by
  refine Ct.of (by decide) (Nat.le_of_ble_eq_true rfl) (fun X hR => ?_)
  show G (ΛM, mt_Md_place, 2) X (mS σ f b) [some (.ref 0), some (.int x), some (.int y)] [] 0
  have hn8 := hI.n.2
  have hand : ∀ p, atm f p (nn f) &&& msk f (nn f) < 4096 := fun p => Nat.lt_of_le_of_lt Nat.and_le_right (m_count σ f b hI)
  refine g_iload_n (by decide +kernel : decode prog_10_method_47_code 0 = .ok (.iload_n 1, 1)) rfl ?_
  refine g_callSI [.int x] (by decide +kernel : decode prog_10_method_47_code 1 = .ok (.invokestatic 166, 3)) lk_Md_166 (m_isPlace ΛM (mS σ f b) x) rfl rfl (Nat.le_of_ble_eq_true rfl) (Nat.le_of_ble_eq_true rfl) (fun r1 s1 h1 => ?_)
  rcases h1 with ⟨rfl, ⟨rfl, p, hp1, rfl⟩ | ⟨rfl, n1⟩⟩
  · refine g_if_eqN (tgt := 19) (by decide +kernel : decode prog_10_method_47_code 4 = .ok (.ifCond .eq 15, 3)) (by decide) (by decide) (fun h => False.elim (by revert h; decide)) (fun _ => ?_)
    refine g_iload_n (by decide +kernel : decode prog_10_method_47_code 7 = .ok (.iload_n 2, 1)) rfl ?_
    refine g_i2l (by decide +kernel : decode prog_10_method_47_code 8 = .ok (.i2l, 1)) ?_
    refine g_lconst (v := lN 0) (by decide +kernel : decode prog_10_method_47_code 9 = .ok (.lconst 0, 1)) (by decide) ?_
    refine g_ldc2 (v := lN 2) (by decide +kernel : decode prog_10_method_47_code 10 = .ok (.ldc2_w 175, 3)) kc_Md_175 ?_
    refine g_callSI [.long (Int32.toInt64 y), .long (lN 0), .long (lN 2)] (by decide +kernel : decode prog_10_method_47_code 13 = .ok (.invokestatic 57, 3)) lk_Md_57 (m_isInN ΛM (mS σ f b) y 0 2) rfl rfl (Nat.le_of_ble_eq_true rfl) (Nat.le_of_ble_eq_true rfl) (fun r13 s13 h13 => ?_)
    rcases h13 with ⟨rfl, ⟨rfl, w, ha13, hb13, rfl⟩ | ⟨rfl, n13⟩⟩
    · refine g_if_neN (tgt := 21) (by decide +kernel : decode prog_10_method_47_code 16 = .ok (.ifCond .ne 5, 3)) (by decide) (by decide) (fun _ => ?_) (fun h => False.elim (by revert h; decide))
      rcases (show w = 0 ∨ w = 1 ∨ w = 2 by omega) with rfl | rfl | rfl
      · refine g_iload_n (by decide +kernel : decode prog_10_method_47_code 21 = .ok (.iload_n 2, 1)) rfl ?_
        refine g_if_neN (tgt := 37) (by decide +kernel : decode prog_10_method_47_code 22 = .ok (.ifCond .ne 15, 3)) (by decide) (by decide) (fun h => False.elim (by revert h; decide)) (fun _ => ?_)
        refine g_aload_n (by decide +kernel : decode prog_10_method_47_code 25 = .ok (.aload_n 0, 1)) rfl ?_
        refine g_getR (by decide +kernel : decode prog_10_method_47_code 26 = .ok (.getfield 7, 3)) fl_Md_7 rfl rfl ?_
        refine g_bipush (v := nI 7) (by decide +kernel : decode prog_10_method_47_code 29 = .ok (.bipush 7, 2)) (by decide) ?_
        refine g_iload_n (by decide +kernel : decode prog_10_method_47_code 31 = .ok (.iload_n 1, 1)) rfl ?_
        refine g_iaddN (by decide +kernel : decode prog_10_method_47_code 32 = .ok (.iadd, 1)) ?_
        refine g_iaload (a := 7 + p) (by decide +kernel : decode prog_10_method_47_code 33 = .ok (.iaload, 1)) rfl rfl (by omega) (by decide) ?_
        refine g_top (w := f (7 + p)) (rfl) ?_
        refine g_goto (tgt := 63) (by decide +kernel : decode prog_10_method_47_code 34 = .ok (.goto 29, 3)) (by decide) ?_
        exact g_iret hR (by decide +kernel : decode prog_10_method_47_code 63 = .ok (.ireturn, 1)) rfl ⟨_, rfl, ⟨by simp only [placeV, pl_of hp1, rg_of ha13 hb13], Jk.self _ _ _⟩⟩
      · refine g_iload_n (by decide +kernel : decode prog_10_method_47_code 21 = .ok (.iload_n 2, 1)) rfl ?_
        refine g_if_neN (tgt := 37) (by decide +kernel : decode prog_10_method_47_code 22 = .ok (.ifCond .ne 15, 3)) (by decide) (by decide) (fun _ => ?_) (fun h => False.elim (by revert h; decide))
        refine g_iload_n (by decide +kernel : decode prog_10_method_47_code 37 = .ok (.iload_n 2, 1)) rfl ?_
        refine g_iconst (v := nI 1) (by decide +kernel : decode prog_10_method_47_code 38 = .ok (.iconst 1, 1)) (by decide) ?_
        refine g_icmp_neN (tgt := 50) (by decide +kernel : decode prog_10_method_47_code 39 = .ok (.if_icmp .ne 11, 3)) (by decide) (by decide) (by decide) (fun h => False.elim (by revert h; decide)) (fun _ => ?_)
        refine g_aload_n (by decide +kernel : decode prog_10_method_47_code 42 = .ok (.aload_n 0, 1)) rfl ?_
        refine g_iload_n (by decide +kernel : decode prog_10_method_47_code 43 = .ok (.iload_n 1, 1)) rfl ?_
        refine g_callVI [.int (nI p)] (by decide +kernel : decode prog_10_method_47_code 44 = .ok (.invokevirtual 186, 3)) lk_Md_186 (m_thoseAt σ f b hI p (by omega)) rfl rfl rfl rfl (Nat.le_of_ble_eq_true rfl) (Nat.le_of_ble_eq_true rfl) (fun r44 s44 h44 => ?_)
        obtain ⟨rfl, rfl⟩ := h44
        refine g_goto (tgt := 63) (by decide +kernel : decode prog_10_method_47_code 47 = .ok (.goto 16, 3)) (by decide) ?_
        exact g_iret hR (by decide +kernel : decode prog_10_method_47_code 63 = .ok (.ireturn, 1)) rfl ⟨_, rfl, ⟨by simp only [placeV, pl_of hp1, rg_of ha13 hb13], Jk.self _ _ _⟩⟩
      · refine g_iload_n (by decide +kernel : decode prog_10_method_47_code 21 = .ok (.iload_n 2, 1)) rfl ?_
        refine g_if_neN (tgt := 37) (by decide +kernel : decode prog_10_method_47_code 22 = .ok (.ifCond .ne 15, 3)) (by decide) (by decide) (fun _ => ?_) (fun h => False.elim (by revert h; decide))
        refine g_iload_n (by decide +kernel : decode prog_10_method_47_code 37 = .ok (.iload_n 2, 1)) rfl ?_
        refine g_iconst (v := nI 1) (by decide +kernel : decode prog_10_method_47_code 38 = .ok (.iconst 1, 1)) (by decide) ?_
        refine g_icmp_neN (tgt := 50) (by decide +kernel : decode prog_10_method_47_code 39 = .ok (.if_icmp .ne 11, 3)) (by decide) (by decide) (by decide) (fun _ => ?_) (fun h => False.elim (by revert h; decide))
        refine g_aload_n (by decide +kernel : decode prog_10_method_47_code 50 = .ok (.aload_n 0, 1)) rfl ?_
        refine g_iload_n (by decide +kernel : decode prog_10_method_47_code 51 = .ok (.iload_n 1, 1)) rfl ?_
        refine g_callVI [.int (nI p)] (by decide +kernel : decode prog_10_method_47_code 52 = .ok (.invokevirtual 186, 3)) lk_Md_186 (m_thoseAt σ f b hI p (by omega)) rfl rfl rfl rfl (Nat.le_of_ble_eq_true rfl) (Nat.le_of_ble_eq_true rfl) (fun r52 s52 h52 => ?_)
        obtain ⟨rfl, rfl⟩ := h52
        refine g_aload_n (by decide +kernel : decode prog_10_method_47_code 55 = .ok (.aload_n 0, 1)) rfl ?_
        refine g_callVI [] (by decide +kernel : decode prog_10_method_47_code 56 = .ok (.invokevirtual 189, 3)) lk_Md_189 (m_hiddenOnes σ f b hI) rfl rfl rfl rfl (Nat.le_of_ble_eq_true rfl) (Nat.le_of_ble_eq_true rfl) (fun r56 s56 h56 => ?_)
        obtain ⟨rfl, rfl⟩ := h56
        refine g_iand (by decide +kernel : decode prog_10_method_47_code 59 = .ok (.iand, 1)) ?_
        refine g_top (w := nI (atm f p (nn f) &&& msk f (nn f))) (nI_and _ _) ?_
        refine g_callSI [.int (nI (atm f p (nn f) &&& msk f (nn f)))] (by decide +kernel : decode prog_10_method_47_code 60 = .ok (.invokestatic 192, 3)) lk_Md_192 (m_size ΛM (mS σ f b) (atm f p (nn f) &&& msk f (nn f)) (hand p)) rfl rfl (Nat.le_of_ble_eq_true rfl) (Nat.le_of_ble_eq_true rfl) (fun r60 s60 h60 => ?_)
        obtain ⟨rfl, rfl⟩ := h60
        exact g_iret hR (by decide +kernel : decode prog_10_method_47_code 63 = .ok (.ireturn, 1)) rfl ⟨_, rfl, ⟨by simp only [placeV, pl_of hp1, rg_of ha13 hb13], Jk.self _ _ _⟩⟩
    · refine g_if_neN (tgt := 21) (by decide +kernel : decode prog_10_method_47_code 16 = .ok (.ifCond .ne 5, 3)) (by decide) (by decide) (fun h => False.elim (by revert h; decide)) (fun _ => ?_)
      refine g_iconst (v := (-1)) (by decide +kernel : decode prog_10_method_47_code 19 = .ok (.iconst (-1), 1)) (by decide) ?_
      exact g_iret hR (by decide +kernel : decode prog_10_method_47_code 20 = .ok (.ireturn, 1)) rfl ⟨_, rfl, ⟨by simp only [placeV, pl_of hp1, rg_none n13], Jk.self _ _ _⟩⟩
  · refine g_if_eqN (tgt := 19) (by decide +kernel : decode prog_10_method_47_code 4 = .ok (.ifCond .eq 15, 3)) (by decide) (by decide) (fun _ => ?_) (fun h => False.elim (by revert h; decide))
    refine g_iconst (v := (-1)) (by decide +kernel : decode prog_10_method_47_code 19 = .ok (.iconst (-1), 1)) (by decide) ?_
    exact g_iret hR (by decide +kernel : decode prog_10_method_47_code 20 = .ok (.ireturn, 1)) rfl ⟨_, rfl, ⟨by simp only [placeV, pl_none n1], Jk.self _ _ _⟩⟩
set_option maxRecDepth 20000 in
theorem p_person (σ : Store) (f b : Row) (hI : Inv f) (x y z u v : Int32) : Ct ΛM mt_Md_person 1 [.ref 0, .int x, .int y, .int z, .int u, .int v] (mS σ f b) (mP σ (personV f x y z u v) (personT f x y z u v)) := by
  refine Ct.of (by decide) (Nat.le_of_ble_eq_true rfl) (fun X hR => ?_)
  show G (ΛM, mt_Md_person, 1) X (mS σ f b) [some (.ref 0), some (.int x), some (.int y), some (.int z), some (.int u), some (.int v), none] [] 0
  have hn8 := hI.n.2
  refine g_iload_n (by decide +kernel : decode prog_10_method_35_code 0 = .ok (.iload_n 1, 1)) rfl ?_
  refine g_i2l (by decide +kernel : decode prog_10_method_35_code 1 = .ok (.i2l, 1)) ?_
  refine g_lconst (v := lN 0) (by decide +kernel : decode prog_10_method_35_code 2 = .ok (.lconst 0, 1)) (by decide) ?_
  refine g_ldc2 (v := lN 5) (by decide +kernel : decode prog_10_method_35_code 3 = .ok (.ldc2_w 160, 3)) kc_Md_160 ?_
  refine g_callSI [.long (Int32.toInt64 x), .long (lN 0), .long (lN 5)] (by decide +kernel : decode prog_10_method_35_code 6 = .ok (.invokestatic 57, 3)) lk_Md_57 (m_isInN ΛM (mS σ f b) x 0 5) rfl rfl (Nat.le_of_ble_eq_true rfl) (Nat.le_of_ble_eq_true rfl) (fun r6 s6 h6 => ?_)
  rcases h6 with ⟨rfl, ⟨rfl, k, ha6, hb6, rfl⟩ | ⟨rfl, n6⟩⟩
  · refine g_if_eqN (tgt := 55) (by decide +kernel : decode prog_10_method_35_code 9 = .ok (.ifCond .eq 46, 3)) (by decide) (by decide) (fun h => False.elim (by revert h; decide)) (fun _ => ?_)
    refine g_iload_n (by decide +kernel : decode prog_10_method_35_code 12 = .ok (.iload_n 2, 1)) rfl ?_
    refine g_i2l (by decide +kernel : decode prog_10_method_35_code 13 = .ok (.i2l, 1)) ?_
    refine g_lconst (v := lN 0) (by decide +kernel : decode prog_10_method_35_code 14 = .ok (.lconst 0, 1)) (by decide) ?_
    refine g_ldc2 (v := lN 99) (by decide +kernel : decode prog_10_method_35_code 15 = .ok (.ldc2_w 162, 3)) kc_Md_162 ?_
    refine g_callSI [.long (Int32.toInt64 y), .long (lN 0), .long (lN 99)] (by decide +kernel : decode prog_10_method_35_code 18 = .ok (.invokestatic 57, 3)) lk_Md_57 (m_isInN ΛM (mS σ f b) y 0 99) rfl rfl (Nat.le_of_ble_eq_true rfl) (Nat.le_of_ble_eq_true rfl) (fun r18 s18 h18 => ?_)
    rcases h18 with ⟨rfl, ⟨rfl, a, ha18, hb18, rfl⟩ | ⟨rfl, n18⟩⟩
    · refine g_if_eqN (tgt := 55) (by decide +kernel : decode prog_10_method_35_code 21 = .ok (.ifCond .eq 34, 3)) (by decide) (by decide) (fun h => False.elim (by revert h; decide)) (fun _ => ?_)
      refine g_iload_n (by decide +kernel : decode prog_10_method_35_code 24 = .ok (.iload_n 3, 1)) rfl ?_
      refine g_i2l (by decide +kernel : decode prog_10_method_35_code 25 = .ok (.i2l, 1)) ?_
      refine g_lconst (v := lN 0) (by decide +kernel : decode prog_10_method_35_code 26 = .ok (.lconst 0, 1)) (by decide) ?_
      refine g_ldc2 (v := lN 9) (by decide +kernel : decode prog_10_method_35_code 27 = .ok (.ldc2_w 164, 3)) kc_Md_164 ?_
      refine g_callSI [.long (Int32.toInt64 z), .long (lN 0), .long (lN 9)] (by decide +kernel : decode prog_10_method_35_code 30 = .ok (.invokestatic 57, 3)) lk_Md_57 (m_isInN ΛM (mS σ f b) z 0 9) rfl rfl (Nat.le_of_ble_eq_true rfl) (Nat.le_of_ble_eq_true rfl) (fun r30 s30 h30 => ?_)
      rcases h30 with ⟨rfl, ⟨rfl, w, ha30, hb30, rfl⟩ | ⟨rfl, n30⟩⟩
      · refine g_if_eqN (tgt := 55) (by decide +kernel : decode prog_10_method_35_code 33 = .ok (.ifCond .eq 22, 3)) (by decide) (by decide) (fun h => False.elim (by revert h; decide)) (fun _ => ?_)
        refine g_iload (by decide +kernel : decode prog_10_method_35_code 36 = .ok (.iload 4, 2)) rfl ?_
        refine g_callSI [.int u] (by decide +kernel : decode prog_10_method_35_code 38 = .ok (.invokestatic 166, 3)) lk_Md_166 (m_isPlace ΛM (mS σ f b) u) rfl rfl (Nat.le_of_ble_eq_true rfl) (Nat.le_of_ble_eq_true rfl) (fun r38 s38 h38 => ?_)
        rcases h38 with ⟨rfl, ⟨rfl, p, hp38, rfl⟩ | ⟨rfl, n38⟩⟩
        · refine g_if_eqN (tgt := 55) (by decide +kernel : decode prog_10_method_35_code 41 = .ok (.ifCond .eq 14, 3)) (by decide) (by decide) (fun h => False.elim (by revert h; decide)) (fun _ => ?_)
          refine g_iload (by decide +kernel : decode prog_10_method_35_code 44 = .ok (.iload 5, 2)) rfl ?_
          refine g_i2l (by decide +kernel : decode prog_10_method_35_code 46 = .ok (.i2l, 1)) ?_
          refine g_lconst (v := lN 0) (by decide +kernel : decode prog_10_method_35_code 47 = .ok (.lconst 0, 1)) (by decide) ?_
          refine g_lconst (v := lN 1) (by decide +kernel : decode prog_10_method_35_code 48 = .ok (.lconst 1, 1)) (by decide) ?_
          refine g_callSI [.long (Int32.toInt64 v), .long (lN 0), .long (lN 1)] (by decide +kernel : decode prog_10_method_35_code 49 = .ok (.invokestatic 57, 3)) lk_Md_57 (m_isInN ΛM (mS σ f b) v 0 1) rfl rfl (Nat.le_of_ble_eq_true rfl) (Nat.le_of_ble_eq_true rfl) (fun r49 s49 h49 => ?_)
          rcases h49 with ⟨rfl, ⟨rfl, s, ha49, hb49, rfl⟩ | ⟨rfl, n49⟩⟩
          · refine g_if_neN (tgt := 57) (by decide +kernel : decode prog_10_method_35_code 52 = .ok (.ifCond .ne 5, 3)) (by decide) (by decide) (fun _ => ?_) (fun h => False.elim (by revert h; decide))
            refine g_aload_n (by decide +kernel : decode prog_10_method_35_code 57 = .ok (.aload_n 0, 1)) rfl ?_
            refine g_getR (by decide +kernel : decode prog_10_method_35_code 58 = .ok (.getfield 7, 3)) fl_Md_7 rfl rfl ?_
            refine g_iconst (v := nI 0) (by decide +kernel : decode prog_10_method_35_code 61 = .ok (.iconst 0, 1)) (by decide) ?_
            refine g_iaload (a := 0) (by decide +kernel : decode prog_10_method_35_code 62 = .ok (.iaload, 1)) rfl rfl (by decide) (by decide) ?_
            refine g_top (w := nI (nn f)) (hI.n.1) ?_
            refine g_bipush (v := nI 8) (by decide +kernel : decode prog_10_method_35_code 63 = .ok (.bipush 8, 2)) (by decide) ?_
            refine g_icmp_neN (tgt := 71) (by decide +kernel : decode prog_10_method_35_code 65 = .ok (.if_icmp .ne 6, 3)) (by decide) (by omega) (by decide) (fun h65 => ?_) (fun h65 => ?_)
            · refine g_bipush (v := nI 19) (by decide +kernel : decode prog_10_method_35_code 71 = .ok (.bipush 19, 2)) (by decide) ?_
              refine g_bipush (v := nI 6) (by decide +kernel : decode prog_10_method_35_code 73 = .ok (.bipush 6, 2)) (by decide) ?_
              refine g_aload_n (by decide +kernel : decode prog_10_method_35_code 75 = .ok (.aload_n 0, 1)) rfl ?_
              refine g_getR (by decide +kernel : decode prog_10_method_35_code 76 = .ok (.getfield 7, 3)) fl_Md_7 rfl rfl ?_
              refine g_iconst (v := nI 0) (by decide +kernel : decode prog_10_method_35_code 79 = .ok (.iconst 0, 1)) (by decide) ?_
              refine g_iaload (a := 0) (by decide +kernel : decode prog_10_method_35_code 80 = .ok (.iaload, 1)) rfl rfl (by decide) (by decide) ?_
              refine g_top (w := nI (nn f)) (hI.n.1) ?_
              refine g_imulN (by decide +kernel : decode prog_10_method_35_code 81 = .ok (.imul, 1)) ?_
              refine g_iaddN (by decide +kernel : decode prog_10_method_35_code 82 = .ok (.iadd, 1)) ?_
              refine g_istore (L' := [some (.ref 0), some (.int (nI k)), some (.int (nI a)), some (.int (nI w)), some (.int (nI p)), some (.int (nI s)), some (.int (nI (19 + 6 * (nn f))))]) (by decide +kernel : decode prog_10_method_35_code 83 = .ok (.istore 6, 2)) (Nat.le_of_ble_eq_true rfl) rfl ?_
              refine g_aload_n (by decide +kernel : decode prog_10_method_35_code 85 = .ok (.aload_n 0, 1)) rfl ?_
              refine g_getR (by decide +kernel : decode prog_10_method_35_code 86 = .ok (.getfield 7, 3)) fl_Md_7 rfl rfl ?_
              refine g_iload (by decide +kernel : decode prog_10_method_35_code 89 = .ok (.iload 6, 2)) rfl ?_
              refine g_iload_n (by decide +kernel : decode prog_10_method_35_code 91 = .ok (.iload_n 1, 1)) rfl ?_
              refine g_iastore (a := 19 + 6 * (nn f)) (by decide +kernel : decode prog_10_method_35_code 92 = .ok (.iastore, 1)) rfl rfl (by omega) (by decide) ?_
              refine g_sto (mS_u1 _ _ _ _ _) ?_
              refine g_aload_n (by decide +kernel : decode prog_10_method_35_code 93 = .ok (.aload_n 0, 1)) rfl ?_
              refine g_getR (by decide +kernel : decode prog_10_method_35_code 94 = .ok (.getfield 7, 3)) fl_Md_7 rfl rfl ?_
              refine g_iload (by decide +kernel : decode prog_10_method_35_code 97 = .ok (.iload 6, 2)) rfl ?_
              refine g_iconst (v := nI 1) (by decide +kernel : decode prog_10_method_35_code 99 = .ok (.iconst 1, 1)) (by decide) ?_
              refine g_iaddN (by decide +kernel : decode prog_10_method_35_code 100 = .ok (.iadd, 1)) ?_
              refine g_iload_n (by decide +kernel : decode prog_10_method_35_code 101 = .ok (.iload_n 2, 1)) rfl ?_
              refine g_iastore (a := 19 + 6 * (nn f) + 1) (by decide +kernel : decode prog_10_method_35_code 102 = .ok (.iastore, 1)) rfl rfl (by omega) (by decide) ?_
              refine g_sto (mS_u1 _ _ _ _ _) ?_
              refine g_aload_n (by decide +kernel : decode prog_10_method_35_code 103 = .ok (.aload_n 0, 1)) rfl ?_
              refine g_getR (by decide +kernel : decode prog_10_method_35_code 104 = .ok (.getfield 7, 3)) fl_Md_7 rfl rfl ?_
              refine g_iload (by decide +kernel : decode prog_10_method_35_code 107 = .ok (.iload 6, 2)) rfl ?_
              refine g_iconst (v := nI 2) (by decide +kernel : decode prog_10_method_35_code 109 = .ok (.iconst 2, 1)) (by decide) ?_
              refine g_iaddN (by decide +kernel : decode prog_10_method_35_code 110 = .ok (.iadd, 1)) ?_
              refine g_iload_n (by decide +kernel : decode prog_10_method_35_code 111 = .ok (.iload_n 3, 1)) rfl ?_
              refine g_iastore (a := 19 + 6 * (nn f) + 2) (by decide +kernel : decode prog_10_method_35_code 112 = .ok (.iastore, 1)) rfl rfl (by omega) (by decide) ?_
              refine g_sto (mS_u1 _ _ _ _ _) ?_
              refine g_aload_n (by decide +kernel : decode prog_10_method_35_code 113 = .ok (.aload_n 0, 1)) rfl ?_
              refine g_getR (by decide +kernel : decode prog_10_method_35_code 114 = .ok (.getfield 7, 3)) fl_Md_7 rfl rfl ?_
              refine g_iload (by decide +kernel : decode prog_10_method_35_code 117 = .ok (.iload 6, 2)) rfl ?_
              refine g_iconst (v := nI 3) (by decide +kernel : decode prog_10_method_35_code 119 = .ok (.iconst 3, 1)) (by decide) ?_
              refine g_iaddN (by decide +kernel : decode prog_10_method_35_code 120 = .ok (.iadd, 1)) ?_
              refine g_iload (by decide +kernel : decode prog_10_method_35_code 121 = .ok (.iload 4, 2)) rfl ?_
              refine g_iastore (a := 19 + 6 * (nn f) + 3) (by decide +kernel : decode prog_10_method_35_code 123 = .ok (.iastore, 1)) rfl rfl (by omega) (by decide) ?_
              refine g_sto (mS_u1 _ _ _ _ _) ?_
              refine g_aload_n (by decide +kernel : decode prog_10_method_35_code 124 = .ok (.aload_n 0, 1)) rfl ?_
              refine g_getR (by decide +kernel : decode prog_10_method_35_code 125 = .ok (.getfield 7, 3)) fl_Md_7 rfl rfl ?_
              refine g_iload (by decide +kernel : decode prog_10_method_35_code 128 = .ok (.iload 6, 2)) rfl ?_
              refine g_iconst (v := nI 4) (by decide +kernel : decode prog_10_method_35_code 130 = .ok (.iconst 4, 1)) (by decide) ?_
              refine g_iaddN (by decide +kernel : decode prog_10_method_35_code 131 = .ok (.iadd, 1)) ?_
              refine g_iconst (v := nI 1) (by decide +kernel : decode prog_10_method_35_code 132 = .ok (.iconst 1, 1)) (by decide) ?_
              refine g_iload (by decide +kernel : decode prog_10_method_35_code 133 = .ok (.iload 5, 2)) rfl ?_
              refine g_isubN (by decide +kernel : decode prog_10_method_35_code 135 = .ok (.isub, 1)) (by omega) ?_
              refine g_iastore (a := 19 + 6 * (nn f) + 4) (by decide +kernel : decode prog_10_method_35_code 136 = .ok (.iastore, 1)) rfl rfl (by omega) (by decide) ?_
              refine g_sto (mS_u1 _ _ _ _ _) ?_
              refine g_aload_n (by decide +kernel : decode prog_10_method_35_code 137 = .ok (.aload_n 0, 1)) rfl ?_
              refine g_getR (by decide +kernel : decode prog_10_method_35_code 138 = .ok (.getfield 7, 3)) fl_Md_7 rfl rfl ?_
              refine g_iload (by decide +kernel : decode prog_10_method_35_code 141 = .ok (.iload 6, 2)) rfl ?_
              refine g_iconst (v := nI 5) (by decide +kernel : decode prog_10_method_35_code 143 = .ok (.iconst 5, 1)) (by decide) ?_
              refine g_iaddN (by decide +kernel : decode prog_10_method_35_code 144 = .ok (.iadd, 1)) ?_
              refine g_iconst (v := nI 0) (by decide +kernel : decode prog_10_method_35_code 145 = .ok (.iconst 0, 1)) (by decide) ?_
              refine g_iastore (a := 19 + 6 * (nn f) + 5) (by decide +kernel : decode prog_10_method_35_code 146 = .ok (.iastore, 1)) rfl rfl (by omega) (by decide) ?_
              refine g_sto (mS_u1 _ _ _ _ _) ?_
              refine g_aload_n (by decide +kernel : decode prog_10_method_35_code 147 = .ok (.aload_n 0, 1)) rfl ?_
              refine g_getR (by decide +kernel : decode prog_10_method_35_code 148 = .ok (.getfield 7, 3)) fl_Md_7 rfl rfl ?_
              refine g_iconst (v := nI 0) (by decide +kernel : decode prog_10_method_35_code 151 = .ok (.iconst 0, 1)) (by decide) ?_
              refine g_dup2 (by decide +kernel : decode prog_10_method_35_code 152 = .ok (.dup2, 1)) rfl rfl ?_
              refine g_iaload (a := 0) (by decide +kernel : decode prog_10_method_35_code 153 = .ok (.iaload, 1)) rfl rfl (by decide) (by decide) ?_
              refine g_top (w := nI (nn f)) (by rw [mS_1]; simp (disch := omega) only [upd_n]; exact hI.n.1) ?_
              refine g_iconst (v := nI 1) (by decide +kernel : decode prog_10_method_35_code 154 = .ok (.iconst 1, 1)) (by decide) ?_
              refine g_iaddN (by decide +kernel : decode prog_10_method_35_code 155 = .ok (.iadd, 1)) ?_
              refine g_iastore (a := 0) (by decide +kernel : decode prog_10_method_35_code 156 = .ok (.iastore, 1)) rfl rfl (by decide) (by decide) ?_
              refine g_sto (mS_u1 _ _ _ _ _) ?_
              refine g_aload_n (by decide +kernel : decode prog_10_method_35_code 157 = .ok (.aload_n 0, 1)) rfl ?_
              refine g_getR (by decide +kernel : decode prog_10_method_35_code 158 = .ok (.getfield 7, 3)) fl_Md_7 rfl rfl ?_
              refine g_iconst (v := nI 0) (by decide +kernel : decode prog_10_method_35_code 161 = .ok (.iconst 0, 1)) (by decide) ?_
              refine g_iaload (a := 0) (by decide +kernel : decode prog_10_method_35_code 162 = .ok (.iaload, 1)) rfl rfl (by decide) (by decide) ?_
              refine g_top (w := nI (nn f + 1)) (by rw [mS_1, upd_s]) ?_
              refine g_iconst (v := nI 1) (by decide +kernel : decode prog_10_method_35_code 163 = .ok (.iconst 1, 1)) (by decide) ?_
              refine g_isubN (by decide +kernel : decode prog_10_method_35_code 164 = .ok (.isub, 1)) (by omega) ?_
              exact g_iret hR (by decide +kernel : decode prog_10_method_35_code 165 = .ok (.ireturn, 1)) rfl ⟨_, rfl, ⟨by simp only [personV, rg_of ha6 hb6, rg_of ha18 hb18, rg_of ha30 hb30, pl_of hp38, rg_of ha49 hb49]; rw [if_neg h65, Nat.add_sub_cancel], by simp only [personT, rg_of ha6 hb6, rg_of ha18 hb18, rg_of ha30 hb30, pl_of hp38, rg_of ha49 hb49]; rw [if_neg h65]; exact Jk.self _ _ _⟩⟩
            · refine g_bipush (v := (-2)) (by decide +kernel : decode prog_10_method_35_code 68 = .ok (.bipush (-2), 2)) (by decide) ?_
              exact g_iret hR (by decide +kernel : decode prog_10_method_35_code 70 = .ok (.ireturn, 1)) rfl ⟨_, rfl, ⟨by simp only [personV, rg_of ha6 hb6, rg_of ha18 hb18, rg_of ha30 hb30, pl_of hp38, rg_of ha49 hb49]; rw [if_pos h65], by simp only [personT, rg_of ha6 hb6, rg_of ha18 hb18, rg_of ha30 hb30, pl_of hp38, rg_of ha49 hb49]; rw [if_pos h65]; exact Jk.self _ _ _⟩⟩
          · refine g_if_neN (tgt := 57) (by decide +kernel : decode prog_10_method_35_code 52 = .ok (.ifCond .ne 5, 3)) (by decide) (by decide) (fun h => False.elim (by revert h; decide)) (fun _ => ?_)
            refine g_iconst (v := (-1)) (by decide +kernel : decode prog_10_method_35_code 55 = .ok (.iconst (-1), 1)) (by decide) ?_
            exact g_iret hR (by decide +kernel : decode prog_10_method_35_code 56 = .ok (.ireturn, 1)) rfl ⟨_, rfl, ⟨by simp only [personV, rg_of ha6 hb6, rg_of ha18 hb18, rg_of ha30 hb30, pl_of hp38, rg_none n49], by simp only [personT, rg_of ha6 hb6, rg_of ha18 hb18, rg_of ha30 hb30, pl_of hp38, rg_none n49]; exact Jk.self _ _ _⟩⟩
        · refine g_if_eqN (tgt := 55) (by decide +kernel : decode prog_10_method_35_code 41 = .ok (.ifCond .eq 14, 3)) (by decide) (by decide) (fun _ => ?_) (fun h => False.elim (by revert h; decide))
          refine g_iconst (v := (-1)) (by decide +kernel : decode prog_10_method_35_code 55 = .ok (.iconst (-1), 1)) (by decide) ?_
          exact g_iret hR (by decide +kernel : decode prog_10_method_35_code 56 = .ok (.ireturn, 1)) rfl ⟨_, rfl, ⟨by simp only [personV, rg_of ha6 hb6, rg_of ha18 hb18, rg_of ha30 hb30, pl_none n38], by simp only [personT, rg_of ha6 hb6, rg_of ha18 hb18, rg_of ha30 hb30, pl_none n38]; exact Jk.self _ _ _⟩⟩
      · refine g_if_eqN (tgt := 55) (by decide +kernel : decode prog_10_method_35_code 33 = .ok (.ifCond .eq 22, 3)) (by decide) (by decide) (fun _ => ?_) (fun h => False.elim (by revert h; decide))
        refine g_iconst (v := (-1)) (by decide +kernel : decode prog_10_method_35_code 55 = .ok (.iconst (-1), 1)) (by decide) ?_
        exact g_iret hR (by decide +kernel : decode prog_10_method_35_code 56 = .ok (.ireturn, 1)) rfl ⟨_, rfl, ⟨by simp only [personV, rg_of ha6 hb6, rg_of ha18 hb18, rg_none n30], by simp only [personT, rg_of ha6 hb6, rg_of ha18 hb18, rg_none n30]; exact Jk.self _ _ _⟩⟩
    · refine g_if_eqN (tgt := 55) (by decide +kernel : decode prog_10_method_35_code 21 = .ok (.ifCond .eq 34, 3)) (by decide) (by decide) (fun _ => ?_) (fun h => False.elim (by revert h; decide))
      refine g_iconst (v := (-1)) (by decide +kernel : decode prog_10_method_35_code 55 = .ok (.iconst (-1), 1)) (by decide) ?_
      exact g_iret hR (by decide +kernel : decode prog_10_method_35_code 56 = .ok (.ireturn, 1)) rfl ⟨_, rfl, ⟨by simp only [personV, rg_of ha6 hb6, rg_none n18], by simp only [personT, rg_of ha6 hb6, rg_none n18]; exact Jk.self _ _ _⟩⟩
  · refine g_if_eqN (tgt := 55) (by decide +kernel : decode prog_10_method_35_code 9 = .ok (.ifCond .eq 46, 3)) (by decide) (by decide) (fun _ => ?_) (fun h => False.elim (by revert h; decide))
    refine g_iconst (v := (-1)) (by decide +kernel : decode prog_10_method_35_code 55 = .ok (.iconst (-1), 1)) (by decide) ?_
    exact g_iret hR (by decide +kernel : decode prog_10_method_35_code 56 = .ok (.ireturn, 1)) rfl ⟨_, rfl, ⟨by simp only [personV, rg_none n6], by simp only [personT, rg_none n6]; exact Jk.self _ _ _⟩⟩
