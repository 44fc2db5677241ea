/-! THE REFERENCE: public methods that ask for years -/
/-- the rows that a trial leaves behind don't count: aside, found-by -/
def Jk (σ : Store) (f : Row) (σ' : Store) : Prop := ∃ a b, σ' = mS (s_row σ 3 a) f b
theorem Jk.self (σ : Store) (f b : Row) : Jk σ f (mS σ f b) := ⟨σ 3, b, by
  have : s_row σ 3 (σ 3) = σ := by
    funext k
    unfold s_row
    by_cases h : k = 3
    · subst h; simp
    · simp [h]
  rw [this]⟩
abbrev mP (σ : Store) (v : Int32) (f : Row) : Option Value → Store → Prop := PI (fun r σ' => r = v ∧ Jk σ f σ')
/-- how many are hidden -/
def hc (f : Row) : Nat := popc (msk f (nn f))
theorem hc_le (f : Row) : hc f ≤ 13 := popc_le _
theorem m_count (σ : Store) (f b : Row) (hI : Inv f) : msk f (nn f) < 4096 := by have := inv_m256 hI; omega
def yearsV (f : Row) (x : Int32) : Int32 := match rg 1 60 x with
  | none => -1
  | some n => nI (hc (yN 255 f n))
def yearsT (f : Row) (x : Int32) : Row := match rg 1 60 x with
  | none => f
  | some n => yN 255 f n
def whereV (f : Row) (x y : Int32) : Int32 := match pz f x with
  | none => -1
  | some o => match rg 0 60 y with
    | none => -1
    | some n => yN 255 f n (19 + 6 * o + 3)
def shownV (f : Row) (x : Int32) : Int32 := match pz f x with
  | none => -1
  | some o => if 60 < shw 255 o 61 f then -3 else nI (shw 255 o 61 f)
def allV (f : Row) : Int32 := if 60 < alw 61 f then -3 else nI (alw 61 f)
/-- who found each in a year -/
def fbF (m : Nat) (f : Row) : Row := (yr m f (fun _ => 0)).2
theorem rstB_at (b : Row) : ∀ k i, i < k → rstB b k i = -1 := by
  intro k
  induction k with
  | zero => intro i h; omega
  | succ k ih =>
    intro i h
    show upd (rstB b k) k (-1) i = -1
    by_cases e : i = k
    · subst e; exact upd_s
    · rw [upd_n e]; exact ih i (by omega)
theorem seekN_2 (m h : Nat) (f b b' : Row) (n : Nat) (hb : ∀ i, i < n → b i = b' i) : ∀ k i, i < n → (seekN m h f b k).2 i = (seekN m h f b' k).2 i := by
  intro k
  induction k with
  | zero => exact hb
  | succ k ih =>
    intro i hi
    unfold seekN
    dsimp only
    rw [seekN_b m h f b b' k]
    split
    · exact ih i hi
    · generalize seekQ (seekN m h f b' k).1 k (m.testBit k) = q
      cases q with
      | none => exact ih i hi
      | some q =>
        show upd _ _ _ i = upd _ _ _ i
        by_cases e : i = q
        · subst e; rw [upd_s, upd_s]
        · rw [upd_n e, upd_n e]; exact ih i hi
theorem yr_2 (m : Nat) (f b : Row) {o : Nat} (ho : o < nn f) : (yr m f b).2 o = fbF m f o := by
  unfold fbF yr
  dsimp only
  exact seekN_2 _ _ _ _ _ (nn f) (fun i hi => by rw [rstB_at b _ i hi, rstB_at _ _ i hi]) _ o ho
def finderV (f : Row) (x : Int32) : Int32 := match pz f x with
  | none => -1
  | some o => match shw 255 o 61 f with
    | 0 => -3
    | k + 1 => if 60 < k + 1 then -3 else if fbF 255 (yN 255 f k) o < 0 then -3 else fbF 255 (yN 255 f k) o
set_option maxRecDepth 20000 in
theorem p_years (σ : Store) (f b : Row) (hI : Inv f) (x : Int32) : Ct ΛM mt_Md_years 5 [.ref 0, .int x] (mS σ f b) (mP σ (yearsV f x) (yearsT f x)) := by
  refine Ct.of (by decide) (Nat.le_of_ble_eq_true rfl) (fun X hR => ?_)
  show G (ΛM, mt_Md_years, 5) X (mS σ f b) [some (.ref 0), some (.int x)] [] 0
  have hn8 := hI.n.2
  refine g_iload_n (by decide +kernel : decode prog_10_method_52_code 0 = .ok (.iload_n 1, 1)) rfl ?_
  refine g_i2l (by decide +kernel : decode prog_10_method_52_code 1 = .ok (.i2l, 1)) ?_
  refine g_lconst (v := lN 1) (by decide +kernel : decode prog_10_method_52_code 2 = .ok (.lconst 1, 1)) (by decide) ?_
  refine g_ldc2 (v := lN 60) (by decide +kernel : decode prog_10_method_52_code 3 = .ok (.ldc2_w 205, 3)) kc_Md_205 ?_
  refine g_callSI [.long (Int32.toInt64 x), .long (lN 1), .long (lN 60)] (by decide +kernel : decode prog_10_method_52_code 6 = .ok (.invokestatic 57, 3)) lk_Md_57 (m_isInN ΛM (mS σ f b) x 1 60) rfl rfl (Nat.le_of_ble_eq_true rfl) (Nat.le_of_ble_eq_true rfl) (fun r6 s6 h6 => ?_)
  rcases h6 with ⟨rfl, ⟨rfl, n, ha6, hb6, rfl⟩ | ⟨rfl, n6⟩⟩
  · refine g_if_neN (tgt := 14) (by decide +kernel : decode prog_10_method_52_code 9 = .ok (.ifCond .ne 5, 3)) (by decide) (by decide) (fun _ => ?_) (fun h => False.elim (by revert h; decide))
    refine g_aload_n (by decide +kernel : decode prog_10_method_52_code 14 = .ok (.aload_n 0, 1)) rfl ?_
    refine g_iload_n (by decide +kernel : decode prog_10_method_52_code 15 = .ok (.iload_n 1, 1)) rfl ?_
    refine g_callVV [.int (nI n)] (by decide +kernel : decode prog_10_method_52_code 16 = .ok (.invokevirtual 207, 3)) lk_Md_207 (m_goes σ f b hI n (by omega)) rfl rfl rfl rfl (Nat.le_of_ble_eq_true rfl) (Nat.le_of_ble_eq_true rfl) (fun s16 h16 => ?_)
    obtain rfl := h16
    refine g_aload_n (by decide +kernel : decode prog_10_method_52_code 19 = .ok (.aload_n 0, 1)) rfl ?_
    refine g_callVI [] (by decide +kernel : decode prog_10_method_52_code 20 = .ok (.invokevirtual 189, 3)) lk_Md_189 (m_hiddenOnes σ (yN 255 f n) (yB 255 f b n) (yN_inv hI n).1) rfl rfl rfl rfl (Nat.le_of_ble_eq_true rfl) (Nat.le_of_ble_eq_true rfl) (fun r20 s20 h20 => ?_)
    obtain ⟨rfl, rfl⟩ := h20
    refine g_callSI [.int (nI (msk (yN 255 f n) (nn (yN 255 f n))))] (by decide +kernel : decode prog_10_method_52_code 23 = .ok (.invokestatic 192, 3)) lk_Md_192 (m_size ΛM (mS σ (yN 255 f n) (yB 255 f b n)) (msk (yN 255 f n) (nn (yN 255 f n))) (m_count σ (yN 255 f n) (fun _ => 0) (yN_inv hI n).1)) rfl rfl (Nat.le_of_ble_eq_true rfl) (Nat.le_of_ble_eq_true rfl) (fun r23 s23 h23 => ?_)
    obtain ⟨rfl, rfl⟩ := h23
    exact g_iret hR (by decide +kernel : decode prog_10_method_52_code 26 = .ok (.ireturn, 1)) rfl ⟨_, rfl, ⟨by simp only [yearsV, rg_of ha6 hb6] <;> rfl, by simp only [yearsT, rg_of ha6 hb6]; exact Jk.self _ _ _⟩⟩
  · refine g_if_neN (tgt := 14) (by decide +kernel : decode prog_10_method_52_code 9 = .ok (.ifCond .ne 5, 3)) (by decide) (by decide) (fun h => False.elim (by revert h; decide)) (fun _ => ?_)
    refine g_iconst (v := (-1)) (by decide +kernel : decode prog_10_method_52_code 12 = .ok (.iconst (-1), 1)) (by decide) ?_
    exact g_iret hR (by decide +kernel : decode prog_10_method_52_code 13 = .ok (.ireturn, 1)) rfl ⟨_, rfl, ⟨by simp only [yearsV, rg_none n6] <;> rfl, by simp only [yearsT, rg_none n6]; exact Jk.self _ _ _⟩⟩
set_option maxRecDepth 20000 in
theorem p_where (σ : Store) (f b : Row) (hI : Inv f) (x y : Int32) : Ct ΛM mt_Md_where 5 [.ref 0, .int x, .int y] (mS σ f b) (mP σ (whereV f x y) f) := by
  refine Ct.of (by decide) (Nat.le_of_ble_eq_true rfl) (fun X hR => ?_)
  show G (ΛM, mt_Md_where, 5) X (mS σ f b) [some (.ref 0), some (.int x), some (.int y), none] [] 0
  have hn8 := hI.n.2
  refine g_aload_n (by decide +kernel : decode prog_10_method_61_code 0 = .ok (.aload_n 0, 1)) rfl ?_
  refine g_iload_n (by decide +kernel : decode prog_10_method_61_code 1 = .ok (.iload_n 1, 1)) rfl ?_
  refine g_callVI [.int x] (by decide +kernel : decode prog_10_method_61_code 2 = .ok (.invokevirtual 172, 3)) lk_Md_172 (m_isOne (mS σ f b) x hI.n.1 (by omega)) rfl rfl rfl rfl (Nat.le_of_ble_eq_true rfl) (Nat.le_of_ble_eq_true rfl) (fun r2 s2 h2 => ?_)
  rcases h2 with ⟨rfl, ⟨rfl, o, ho2, rfl⟩ | ⟨rfl, n2⟩⟩
  · refine g_if_eqN (tgt := 20) (by decide +kernel : decode prog_10_method_61_code 5 = .ok (.ifCond .eq 15, 3)) (by decide) (by decide) (fun h => False.elim (by revert h; decide)) (fun _ => ?_)
    refine g_iload_n (by decide +kernel : decode prog_10_method_61_code 8 = .ok (.iload_n 2, 1)) rfl ?_
    refine g_i2l (by decide +kernel : decode prog_10_method_61_code 9 = .ok (.i2l, 1)) ?_
    refine g_lconst (v := lN 0) (by decide +kernel : decode prog_10_method_61_code 10 = .ok (.lconst 0, 1)) (by decide) ?_
    refine g_ldc2 (v := lN 60) (by decide +kernel : decode prog_10_method_61_code 11 = .ok (.ldc2_w 205, 3)) kc_Md_205 ?_
    refine g_callSI [.long (Int32.toInt64 y), .long (lN 0), .long (lN 60)] (by decide +kernel : decode prog_10_method_61_code 14 = .ok (.invokestatic 57, 3)) lk_Md_57 (m_isInN ΛM (mS σ f b) y 0 60) rfl rfl (Nat.le_of_ble_eq_true rfl) (Nat.le_of_ble_eq_true rfl) (fun r14 s14 h14 => ?_)
    rcases h14 with ⟨rfl, ⟨rfl, n, ha14, hb14, rfl⟩ | ⟨rfl, n14⟩⟩
    · refine g_if_neN (tgt := 22) (by decide +kernel : decode prog_10_method_61_code 17 = .ok (.ifCond .ne 5, 3)) (by decide) (by decide) (fun _ => ?_) (fun h => False.elim (by revert h; decide))
      refine g_aload_n (by decide +kernel : decode prog_10_method_61_code 22 = .ok (.aload_n 0, 1)) rfl ?_
      refine g_getR (by decide +kernel : decode prog_10_method_61_code 23 = .ok (.getfield 7, 3)) fl_Md_7 rfl rfl ?_
      refine g_aload_n (by decide +kernel : decode prog_10_method_61_code 26 = .ok (.aload_n 0, 1)) rfl ?_
      refine g_getR (by decide +kernel : decode prog_10_method_61_code 27 = .ok (.getfield 16, 3)) fl_Md_16 rfl rfl ?_
      refine g_callSV [.ref 1, .ref 3] (by decide +kernel : decode prog_10_method_61_code 30 = .ok (.invokestatic 141, 3)) lk_Md_141 (m_aside σ f b) rfl rfl (Nat.le_of_ble_eq_true rfl) (Nat.le_of_ble_eq_true rfl) (fun s30 h30 => ?_)
      obtain rfl := h30
      refine g_aload_n (by decide +kernel : decode prog_10_method_61_code 33 = .ok (.aload_n 0, 1)) rfl ?_
      refine g_iload_n (by decide +kernel : decode prog_10_method_61_code 34 = .ok (.iload_n 2, 1)) rfl ?_
      refine g_callVV [.int (nI n)] (by decide +kernel : decode prog_10_method_61_code 35 = .ok (.invokevirtual 207, 3)) lk_Md_207 (m_goes (s_row σ 3 f) f b hI n (by omega)) rfl rfl rfl rfl (Nat.le_of_ble_eq_true rfl) (Nat.le_of_ble_eq_true rfl) (fun s35 h35 => ?_)
      obtain rfl := h35
      refine g_aload_n (by decide +kernel : decode prog_10_method_61_code 38 = .ok (.aload_n 0, 1)) rfl ?_
      refine g_iload_n (by decide +kernel : decode prog_10_method_61_code 39 = .ok (.iload_n 1, 1)) rfl ?_
      refine g_iconst (v := nI 3) (by decide +kernel : decode prog_10_method_61_code 40 = .ok (.iconst 3, 1)) (by decide) ?_
      refine g_callVI [.int (nI o), .int (nI 3)] (by decide +kernel : decode prog_10_method_61_code 41 = .ok (.invokevirtual 169, 3)) lk_Md_169 (m_its (mS (s_row σ 3 f) (yN 255 f n) (yB 255 f b n)) o 3 (v := (yN 255 f n) (19 + 6 * o + 3)) rfl (by omega)) rfl rfl rfl rfl (Nat.le_of_ble_eq_true rfl) (Nat.le_of_ble_eq_true rfl) (fun r41 s41 h41 => ?_)
      obtain ⟨rfl, rfl⟩ := h41
      refine g_istore_n (L' := [some (.ref 0), some (.int (nI o)), some (.int (nI n)), some (.int ((yN 255 f n) (19 + 6 * o + 3)))]) (by decide +kernel : decode prog_10_method_61_code 44 = .ok (.istore_n 3, 1)) (Nat.le_of_ble_eq_true rfl) rfl ?_
      refine g_aload_n (by decide +kernel : decode prog_10_method_61_code 45 = .ok (.aload_n 0, 1)) rfl ?_
      refine g_getR (by decide +kernel : decode prog_10_method_61_code 46 = .ok (.getfield 16, 3)) fl_Md_16 rfl rfl ?_
      refine g_aload_n (by decide +kernel : decode prog_10_method_61_code 49 = .ok (.aload_n 0, 1)) rfl ?_
      refine g_getR (by decide +kernel : decode prog_10_method_61_code 50 = .ok (.getfield 7, 3)) fl_Md_7 rfl rfl ?_
      refine g_callSV [.ref 3, .ref 1] (by decide +kernel : decode prog_10_method_61_code 53 = .ok (.invokestatic 141, 3)) lk_Md_141 (m_back σ f (yN 255 f n) (yB 255 f b n)) rfl rfl (Nat.le_of_ble_eq_true rfl) (Nat.le_of_ble_eq_true rfl) (fun s53 h53 => ?_)
      obtain rfl := h53
      refine g_iload_n (by decide +kernel : decode prog_10_method_61_code 56 = .ok (.iload_n 3, 1)) rfl ?_
      exact g_iret hR (by decide +kernel : decode prog_10_method_61_code 57 = .ok (.ireturn, 1)) rfl ⟨_, rfl, ⟨by simp only [whereV, pz_of hI ho2, rg_of ha14 hb14], ⟨_, _, rfl⟩⟩⟩
    · refine g_if_neN (tgt := 22) (by decide +kernel : decode prog_10_method_61_code 17 = .ok (.ifCond .ne 5, 3)) (by decide) (by decide) (fun h => False.elim (by revert h; decide)) (fun _ => ?_)
      refine g_iconst (v := (-1)) (by decide +kernel : decode prog_10_method_61_code 20 = .ok (.iconst (-1), 1)) (by decide) ?_
      exact g_iret hR (by decide +kernel : decode prog_10_method_61_code 21 = .ok (.ireturn, 1)) rfl ⟨_, rfl, ⟨by simp only [whereV, pz_of hI ho2, rg_none n14], Jk.self _ _ _⟩⟩
  · refine g_if_eqN (tgt := 20) (by decide +kernel : decode prog_10_method_61_code 5 = .ok (.ifCond .eq 15, 3)) (by decide) (by decide) (fun _ => ?_) (fun h => False.elim (by revert h; decide))
    refine g_iconst (v := (-1)) (by decide +kernel : decode prog_10_method_61_code 20 = .ok (.iconst (-1), 1)) (by decide) ?_
    exact g_iret hR (by decide +kernel : decode prog_10_method_61_code 21 = .ok (.ireturn, 1)) rfl ⟨_, rfl, ⟨by simp only [whereV, pz_none hI n2], Jk.self _ _ _⟩⟩
set_option maxRecDepth 20000 in
theorem p_shown (σ : Store) (f b : Row) (hI : Inv f) (x : Int32) : Ct ΛM mt_Md_shown 5 [.ref 0, .int x] (mS σ f b) (mP σ (shownV f x) f) := by
  refine Ct.of (by decide) (Nat.le_of_ble_eq_true rfl) (fun X hR => ?_)
  show G (ΛM, mt_Md_shown, 5) X (mS σ f b) [some (.ref 0), some (.int x), none] [] 0
  have hn8 := hI.n.2
  refine g_aload_n (by decide +kernel : decode prog_10_method_63_code 0 = .ok (.aload_n 0, 1)) rfl ?_
  refine g_iload_n (by decide +kernel : decode prog_10_method_63_code 1 = .ok (.iload_n 1, 1)) rfl ?_
  refine g_callVI [.int x] (by decide +kernel : decode prog_10_method_63_code 2 = .ok (.invokevirtual 172, 3)) lk_Md_172 (m_isOne (mS σ f b) x hI.n.1 (by omega)) rfl rfl rfl rfl (Nat.le_of_ble_eq_true rfl) (Nat.le_of_ble_eq_true rfl) (fun r2 s2 h2 => ?_)
  rcases h2 with ⟨rfl, ⟨rfl, o, ho2, rfl⟩ | ⟨rfl, n2⟩⟩
  · refine g_if_neN (tgt := 10) (by decide +kernel : decode prog_10_method_63_code 5 = .ok (.ifCond .ne 5, 3)) (by decide) (by decide) (fun _ => ?_) (fun h => False.elim (by revert h; decide))
    refine g_aload_n (by decide +kernel : decode prog_10_method_63_code 10 = .ok (.aload_n 0, 1)) rfl ?_
    refine g_iload_n (by decide +kernel : decode prog_10_method_63_code 11 = .ok (.iload_n 1, 1)) rfl ?_
    refine g_sipush (v := nI 255) (by decide +kernel : decode prog_10_method_63_code 12 = .ok (.sipush 255, 3)) (by decide) ?_
    refine g_callVI [.int (nI o), .int (nI 255)] (by decide +kernel : decode prog_10_method_63_code 15 = .ok (.invokevirtual 228, 3)) lk_Md_228 (m_shownBy σ f b hI o (by omega) 255 (by omega)) rfl rfl rfl rfl (Nat.le_of_ble_eq_true rfl) (Nat.le_of_ble_eq_true rfl) (fun r15 s15 h15 => ?_)
    obtain ⟨rfl, rfl⟩ := h15
    refine g_istore_n (L' := [some (.ref 0), some (.int (nI o)), some (.int (nI (shw 255 o 61 f)))]) (by decide +kernel : decode prog_10_method_63_code 18 = .ok (.istore_n 2, 1)) (Nat.le_of_ble_eq_true rfl) rfl ?_
    refine g_iload_n (by decide +kernel : decode prog_10_method_63_code 19 = .ok (.iload_n 2, 1)) rfl ?_
    refine g_bipush (v := nI 60) (by decide +kernel : decode prog_10_method_63_code 20 = .ok (.bipush 60, 2)) (by decide) ?_
    refine g_icmp_gtN (tgt := 29) (by decide +kernel : decode prog_10_method_63_code 22 = .ok (.if_icmp .gt 7, 3)) (by decide) (by first | omega | (have h9 := shw_le 255 o 61 f; omega)) (by decide) (fun h22 => ?_) (fun h22 => ?_)
    · refine g_bipush (v := (-3)) (by decide +kernel : decode prog_10_method_63_code 29 = .ok (.bipush (-3), 2)) (by decide) ?_
      exact g_iret hR (by decide +kernel : decode prog_10_method_63_code 31 = .ok (.ireturn, 1)) rfl ⟨_, rfl, ⟨by simp only [shownV, pz_of hI ho2, h22, ↓reduceIte], ⟨_, _, rfl⟩⟩⟩
    · refine g_iload_n (by decide +kernel : decode prog_10_method_63_code 25 = .ok (.iload_n 2, 1)) rfl ?_
      refine g_goto (tgt := 31) (by decide +kernel : decode prog_10_method_63_code 26 = .ok (.goto 5, 3)) (by decide) ?_
      exact g_iret hR (by decide +kernel : decode prog_10_method_63_code 31 = .ok (.ireturn, 1)) rfl ⟨_, rfl, ⟨by simp only [shownV, pz_of hI ho2, h22, ↓reduceIte], ⟨_, _, rfl⟩⟩⟩
  · refine g_if_neN (tgt := 10) (by decide +kernel : decode prog_10_method_63_code 5 = .ok (.ifCond .ne 5, 3)) (by decide) (by decide) (fun h => False.elim (by revert h; decide)) (fun _ => ?_)
    refine g_iconst (v := (-1)) (by decide +kernel : decode prog_10_method_63_code 8 = .ok (.iconst (-1), 1)) (by decide) ?_
    exact g_iret hR (by decide +kernel : decode prog_10_method_63_code 9 = .ok (.ireturn, 1)) rfl ⟨_, rfl, ⟨by simp only [shownV, pz_none hI n2, ↓reduceIte], Jk.self _ _ _⟩⟩
theorem alw_out {f : Row} : ∀ (j k : Nat), (∀ i, i < k → msk (yN 255 f i) (nn (yN 255 f i)) ≠ 0) → k ≤ j → alw j f = k + alw (j - k) (yN 255 f k) := by
  intro j k
  induction k with
  | zero => intro _ _; simp [yN]
  | succ k ih =>
    intro h hk
    rw [ih (fun i hi => h i (by omega)) (by omega)]
    rw [show j - k = (j - (k + 1)) + 1 by omega]
    show k + (if _ then _ else _) = _
    rw [if_neg (h k (by omega))]
    show k + (1 + alw (j - (k + 1)) (yF 255 (yN 255 f k))) = k + 1 + alw (j - (k + 1)) (yF 255 (yN 255 f k))
    omega
theorem alw_stop {f : Row} {j k : Nat} (h : ∀ i, i < k → msk (yN 255 f i) (nn (yN 255 f i)) ≠ 0) (hk : k ≤ j) (he : k = j ∨ msk (yN 255 f k) (nn (yN 255 f k)) = 0) : alw j f = k := by
  rw [alw_out j k h hk]
  rcases he with rfl | he
  · rw [Nat.sub_self]; rfl
  · cases hj : j - k with
    | zero => rfl
    | succ q =>
      show k + (if _ then _ else _) = _
      rw [if_pos he]
      rfl
set_option maxRecDepth 20000 in
theorem p_all_lp {X : CX} {σ : Store} {f b : Row} (hI : Inv f) : ∀ (b9 k : Nat), k ≤ 61 → 61 - k < b9 → (∀ i, i < k → msk (yN 255 f i) (nn (yN 255 f i)) ≠ 0) → Rt (ΛM, mt_Md_all, 4) (mP σ (allV f) f) X → G (ΛM, mt_Md_all, 4) X (mS (s_row σ 3 f) (yN 255 f k) (yB 255 f b k)) [some (.ref 0), some (.int (nI k))] [] 13 := by
  have hn8 := hI.n.2
  intro b9
  induction b9 with
  | zero => intro k hk hb hh hR; omega
  | succ b9 ih =>
  intro k hk hb hh hR
  have hIk := (yN_inv (m := 255) hI k).1
  have hm := inv_m256 hIk
  refine g_iload_n (by decide +kernel : decode prog_10_method_64_code 13 = .ok (.iload_n 1, 1)) rfl ?_
  refine g_bipush (v := nI 60) (by decide +kernel : decode prog_10_method_64_code 14 = .ok (.bipush 60, 2)) (by decide) ?_
  refine g_icmp_gtN (tgt := 39) (by decide +kernel : decode prog_10_method_64_code 16 = .ok (.if_icmp .gt 23, 3)) (by decide) (by omega) (by decide) (fun h16 => ?_) (fun h16 => ?_)
  · refine g_aload_n (by decide +kernel : decode prog_10_method_64_code 39 = .ok (.aload_n 0, 1)) rfl ?_
    refine g_getR (by decide +kernel : decode prog_10_method_64_code 40 = .ok (.getfield 16, 3)) fl_Md_16 rfl rfl ?_
    refine g_aload_n (by decide +kernel : decode prog_10_method_64_code 43 = .ok (.aload_n 0, 1)) rfl ?_
    refine g_getR (by decide +kernel : decode prog_10_method_64_code 44 = .ok (.getfield 7, 3)) fl_Md_7 rfl rfl ?_
    refine g_callSV [.ref 3, .ref 1] (by decide +kernel : decode prog_10_method_64_code 47 = .ok (.invokestatic 141, 3)) lk_Md_141 (m_back σ f (yN 255 f k) (yB 255 f b k)) rfl rfl (Nat.le_of_ble_eq_true rfl) (Nat.le_of_ble_eq_true rfl) (fun s47 h47 => ?_)
    obtain rfl := h47
    refine g_iload_n (by decide +kernel : decode prog_10_method_64_code 50 = .ok (.iload_n 1, 1)) rfl ?_
    refine g_bipush (v := nI 60) (by decide +kernel : decode prog_10_method_64_code 51 = .ok (.bipush 60, 2)) (by decide) ?_
    refine g_icmp_gtN (tgt := 60) (by decide +kernel : decode prog_10_method_64_code 53 = .ok (.if_icmp .gt 7, 3)) (by decide) (by omega) (by decide) (fun h53 => ?_) (fun h53 => ?_)
    · refine g_bipush (v := (-3)) (by decide +kernel : decode prog_10_method_64_code 60 = .ok (.bipush (-3), 2)) (by decide) ?_
      exact g_iret hR (by decide +kernel : decode prog_10_method_64_code 62 = .ok (.ireturn, 1)) rfl ⟨_, rfl, ⟨by rw [allV, alw_stop hh hk (Or.inl (by omega))]; first | (exfalso; omega) | rw [if_pos (by omega)] | rw [if_neg (by omega)], ⟨_, _, rfl⟩⟩⟩
    · refine g_iload_n (by decide +kernel : decode prog_10_method_64_code 56 = .ok (.iload_n 1, 1)) rfl ?_
      refine g_goto (tgt := 62) (by decide +kernel : decode prog_10_method_64_code 57 = .ok (.goto 5, 3)) (by decide) ?_
      exact g_iret hR (by decide +kernel : decode prog_10_method_64_code 62 = .ok (.ireturn, 1)) rfl ⟨_, rfl, ⟨by rw [allV, alw_stop hh hk (Or.inl (by omega))]; first | (exfalso; omega) | rw [if_pos (by omega)] | rw [if_neg (by omega)], ⟨_, _, rfl⟩⟩⟩
  · refine g_aload_n (by decide +kernel : decode prog_10_method_64_code 19 = .ok (.aload_n 0, 1)) rfl ?_
    refine g_callVI [] (by decide +kernel : decode prog_10_method_64_code 20 = .ok (.invokevirtual 189, 3)) lk_Md_189 (m_hiddenOnes (s_row σ 3 f) (yN 255 f k) (yB 255 f b k) hIk) rfl rfl rfl rfl (Nat.le_of_ble_eq_true rfl) (Nat.le_of_ble_eq_true rfl) (fun r20 s20 h20 => ?_)
    obtain ⟨rfl, rfl⟩ := h20
    refine g_if_eqN (tgt := 39) (by decide +kernel : decode prog_10_method_64_code 23 = .ok (.ifCond .eq 16, 3)) (by decide) (by omega) (fun h23 => ?_) (fun h23 => ?_)
    · refine g_aload_n (by decide +kernel : decode prog_10_method_64_code 39 = .ok (.aload_n 0, 1)) rfl ?_
      refine g_getR (by decide +kernel : decode prog_10_method_64_code 40 = .ok (.getfield 16, 3)) fl_Md_16 rfl rfl ?_
      refine g_aload_n (by decide +kernel : decode prog_10_method_64_code 43 = .ok (.aload_n 0, 1)) rfl ?_
      refine g_getR (by decide +kernel : decode prog_10_method_64_code 44 = .ok (.getfield 7, 3)) fl_Md_7 rfl rfl ?_
      refine g_callSV [.ref 3, .ref 1] (by decide +kernel : decode prog_10_method_64_code 47 = .ok (.invokestatic 141, 3)) lk_Md_141 (m_back σ f (yN 255 f k) (yB 255 f b k)) rfl rfl (Nat.le_of_ble_eq_true rfl) (Nat.le_of_ble_eq_true rfl) (fun s47 h47 => ?_)
      obtain rfl := h47
      refine g_iload_n (by decide +kernel : decode prog_10_method_64_code 50 = .ok (.iload_n 1, 1)) rfl ?_
      refine g_bipush (v := nI 60) (by decide +kernel : decode prog_10_method_64_code 51 = .ok (.bipush 60, 2)) (by decide) ?_
      refine g_icmp_gtN (tgt := 60) (by decide +kernel : decode prog_10_method_64_code 53 = .ok (.if_icmp .gt 7, 3)) (by decide) (by omega) (by decide) (fun h53 => ?_) (fun h53 => ?_)
      · refine g_bipush (v := (-3)) (by decide +kernel : decode prog_10_method_64_code 60 = .ok (.bipush (-3), 2)) (by decide) ?_
        exact g_iret hR (by decide +kernel : decode prog_10_method_64_code 62 = .ok (.ireturn, 1)) rfl ⟨_, rfl, ⟨by rw [allV, alw_stop hh hk (Or.inr h23)]; first | (exfalso; omega) | rw [if_pos (by omega)] | rw [if_neg (by omega)], ⟨_, _, rfl⟩⟩⟩
      · refine g_iload_n (by decide +kernel : decode prog_10_method_64_code 56 = .ok (.iload_n 1, 1)) rfl ?_
        refine g_goto (tgt := 62) (by decide +kernel : decode prog_10_method_64_code 57 = .ok (.goto 5, 3)) (by decide) ?_
        exact g_iret hR (by decide +kernel : decode prog_10_method_64_code 62 = .ok (.ireturn, 1)) rfl ⟨_, rfl, ⟨by rw [allV, alw_stop hh hk (Or.inr h23)]; first | (exfalso; omega) | rw [if_pos (by omega)] | rw [if_neg (by omega)], ⟨_, _, rfl⟩⟩⟩
    · refine g_aload_n (by decide +kernel : decode prog_10_method_64_code 26 = .ok (.aload_n 0, 1)) rfl ?_
      refine g_sipush (v := nI 255) (by decide +kernel : decode prog_10_method_64_code 27 = .ok (.sipush 255, 3)) (by decide) ?_
      refine g_callVV [.int (nI 255)] (by decide +kernel : decode prog_10_method_64_code 30 = .ok (.invokevirtual 202, 3)) lk_Md_202 ((m_goesBy (s_row σ 3 f) (yN 255 f k) (yB 255 f b k) (yN_inv hI k).1 255 (by omega))) rfl rfl rfl rfl (Nat.le_of_ble_eq_true rfl) (Nat.le_of_ble_eq_true rfl) (fun s30 h30 => ?_)
      obtain rfl := h30
      refine g_sto (σ' := mS (s_row σ 3 f) (yN 255 f (k + 1)) (yB 255 f b (k + 1))) (by rw [yr_1]; rfl) ?_
      refine g_iincN (n := 1) (L' := [some (.ref 0), some (.int (nI (k + 1)))]) (by decide +kernel : decode prog_10_method_64_code 33 = .ok (.iinc 1 1, 3)) rfl (by decide) (Nat.le_of_ble_eq_true rfl) rfl ?_
      refine g_goto (tgt := 13) (by decide +kernel : decode prog_10_method_64_code 36 = .ok (.goto (-23), 3)) (by decide) ?_
      refine ih (k + 1) (by omega) (by omega) (fun i hi => ?_) hR
      rcases (show i < k ∨ i = k by omega) with q | q
      · exact hh i q
      · rw [q]; exact h23
set_option maxRecDepth 20000 in
theorem p_all (σ : Store) (f b : Row) (hI : Inv f)  : Ct ΛM mt_Md_all 4 [.ref 0] (mS σ f b) (mP σ (allV f) f) := by
  refine Ct.of (by decide) (Nat.le_of_ble_eq_true rfl) (fun X hR => ?_)
  show G (ΛM, mt_Md_all, 4) X (mS σ f b) [some (.ref 0), none] [] 0
  have hn8 := hI.n.2
  refine g_aload_n (by decide +kernel : decode prog_10_method_64_code 0 = .ok (.aload_n 0, 1)) rfl ?_
  refine g_getR (by decide +kernel : decode prog_10_method_64_code 1 = .ok (.getfield 7, 3)) fl_Md_7 rfl rfl ?_
  refine g_aload_n (by decide +kernel : decode prog_10_method_64_code 4 = .ok (.aload_n 0, 1)) rfl ?_
  refine g_getR (by decide +kernel : decode prog_10_method_64_code 5 = .ok (.getfield 16, 3)) fl_Md_16 rfl rfl ?_
  refine g_callSV [.ref 1, .ref 3] (by decide +kernel : decode prog_10_method_64_code 8 = .ok (.invokestatic 141, 3)) lk_Md_141 (m_aside σ f b) rfl rfl (Nat.le_of_ble_eq_true rfl) (Nat.le_of_ble_eq_true rfl) (fun s8 h8 => ?_)
  obtain rfl := h8
  refine g_iconst (v := nI 0) (by decide +kernel : decode prog_10_method_64_code 11 = .ok (.iconst 0, 1)) (by decide) ?_
  refine g_istore_n (L' := [some (.ref 0), some (.int (nI 0))]) (by decide +kernel : decode prog_10_method_64_code 12 = .ok (.istore_n 1, 1)) (Nat.le_of_ble_eq_true rfl) rfl ?_
  exact p_all_lp hI 62 0 (by omega) (by omega) (fun i hi => absurd hi (Nat.not_lt_zero i)) hR
set_option maxRecDepth 20000 in
theorem p_finder (σ : Store) (f b : Row) (hI : Inv f) (x : Int32) : Ct ΛM mt_Md_finder 5 [.ref 0, .int x] (mS σ f b) (mP σ (finderV f x) f) := by
  refine Ct.of (by decide) (Nat.le_of_ble_eq_true rfl) (fun X hR => ?_)
  show G (ΛM, mt_Md_finder, 5) X (mS σ f b) [some (.ref 0), some (.int x), none] [] 0
  have hn8 := hI.n.2
  refine g_aload_n (by decide +kernel : decode prog_10_method_65_code 0 = .ok (.aload_n 0, 1)) rfl ?_
  refine g_iload_n (by decide +kernel : decode prog_10_method_65_code 1 = .ok (.iload_n 1, 1)) rfl ?_
  refine g_callVI [.int x] (by decide +kernel : decode prog_10_method_65_code 2 = .ok (.invokevirtual 172, 3)) lk_Md_172 (m_isOne (mS σ f b) x hI.n.1 (by omega)) rfl rfl rfl rfl (Nat.le_of_ble_eq_true rfl) (Nat.le_of_ble_eq_true rfl) (fun r2 s2 h2 => ?_)
  rcases h2 with ⟨rfl, ⟨rfl, o, ho2, rfl⟩ | ⟨rfl, n2⟩⟩
  · refine g_if_neN (tgt := 10) (by decide +kernel : decode prog_10_method_65_code 5 = .ok (.ifCond .ne 5, 3)) (by decide) (by decide) (fun _ => ?_) (fun h => False.elim (by revert h; decide))
    have ho2 := ho2
    refine g_aload_n (by decide +kernel : decode prog_10_method_65_code 10 = .ok (.aload_n 0, 1)) rfl ?_
    refine g_iload_n (by decide +kernel : decode prog_10_method_65_code 11 = .ok (.iload_n 1, 1)) rfl ?_
    refine g_iconst (v := nI 4) (by decide +kernel : decode prog_10_method_65_code 12 = .ok (.iconst 4, 1)) (by decide) ?_
    refine g_callVI [.int (nI o), .int (nI 4)] (by decide +kernel : decode prog_10_method_65_code 13 = .ok (.invokevirtual 169, 3)) lk_Md_169 (m_its (mS σ f b) o 4 (hI.p ho2 4).1 (by omega)) rfl rfl rfl rfl (Nat.le_of_ble_eq_true rfl) (Nat.le_of_ble_eq_true rfl) (fun r13 s13 h13 => ?_)
    obtain ⟨rfl, rfl⟩ := h13
    refine g_if_neN (tgt := 22) (by decide +kernel : decode prog_10_method_65_code 16 = .ok (.ifCond .ne 6, 3)) (by decide) (by first | omega | (have h9 := shw_le 255 o 61 f; omega) | (have h9 : tn (f (19 + 6 * o + 4)) ≤ 1 := (hI.p ho2 4).2; omega)) (fun h16 => ?_) (fun h16 => ?_)
    · obtain ⟨k, hk⟩ : ∃ k, shw 255 o 61 f = k + 1 := by
        have h1 : tn (f (19 + 6 * o + 4)) = 1 := by have : tn (f (19 + 6 * o + 4)) ≤ 1 := (hI.p ho2 4).2; omega
        have h2 : f (19 + 6 * o + 4) = nI 1 := by rw [(hI.p ho2 4).1, h1]
        exact ⟨shw 255 o 60 (yF 255 f), by show (if _ then _ else _) = _; rw [if_pos h2]; exact Nat.add_comm _ _⟩
      refine g_aload_n (by decide +kernel : decode prog_10_method_65_code 22 = .ok (.aload_n 0, 1)) rfl ?_
      refine g_iload_n (by decide +kernel : decode prog_10_method_65_code 23 = .ok (.iload_n 1, 1)) rfl ?_
      refine g_sipush (v := nI 255) (by decide +kernel : decode prog_10_method_65_code 24 = .ok (.sipush 255, 3)) (by decide) ?_
      refine g_callVI [.int (nI o), .int (nI 255)] (by decide +kernel : decode prog_10_method_65_code 27 = .ok (.invokevirtual 228, 3)) lk_Md_228 (m_shownBy σ f b hI o (by omega) 255 (by omega)) rfl rfl rfl rfl (Nat.le_of_ble_eq_true rfl) (Nat.le_of_ble_eq_true rfl) (fun r27 s27 h27 => ?_)
      obtain ⟨rfl, rfl⟩ := h27
      refine g_istore_n (L' := [some (.ref 0), some (.int (nI o)), some (.int (nI (shw 255 o 61 f)))]) (by decide +kernel : decode prog_10_method_65_code 30 = .ok (.istore_n 2, 1)) (Nat.le_of_ble_eq_true rfl) rfl ?_
      refine g_iload_n (by decide +kernel : decode prog_10_method_65_code 31 = .ok (.iload_n 2, 1)) rfl ?_
      refine g_bipush (v := nI 60) (by decide +kernel : decode prog_10_method_65_code 32 = .ok (.bipush 60, 2)) (by decide) ?_
      refine g_icmp_gtN (tgt := 55) (by decide +kernel : decode prog_10_method_65_code 34 = .ok (.if_icmp .gt 21, 3)) (by decide) (by first | omega | (have h9 := shw_le 255 o 61 f; omega) | (have h9 : tn (f (19 + 6 * o + 4)) ≤ 1 := (hI.p ho2 4).2; omega)) (by decide) (fun h34 => ?_) (fun h34 => ?_)
      · refine g_bipush (v := (-3)) (by decide +kernel : decode prog_10_method_65_code 55 = .ok (.bipush (-3), 2)) (by decide) ?_
        exact g_iret hR (by decide +kernel : decode prog_10_method_65_code 57 = .ok (.ireturn, 1)) rfl ⟨_, rfl, ⟨by simp only [finderV, pz_of hI ho2, hk]; rw [hk] at h34; first | rw [if_pos (by omega)] | rw [if_neg (by omega), if_pos h43] | rw [if_neg (by omega), if_neg h43], ⟨_, _, rfl⟩⟩⟩
      · refine g_aload_n (by decide +kernel : decode prog_10_method_65_code 37 = .ok (.aload_n 0, 1)) rfl ?_
        refine g_getR (by decide +kernel : decode prog_10_method_65_code 38 = .ok (.getfield 25, 3)) fl_Md_25 rfl rfl ?_
        refine g_iload_n (by decide +kernel : decode prog_10_method_65_code 41 = .ok (.iload_n 1, 1)) rfl ?_
        refine g_iaload (a := o) (by decide +kernel : decode prog_10_method_65_code 42 = .ok (.iaload, 1)) rfl rfl (by first | omega | (have h9 := shw_le 255 o 61 f; omega) | (have h9 : tn (f (19 + 6 * o + 4)) ≤ 1 := (hI.p ho2 4).2; omega)) (by decide) ?_
        refine g_top (w := fbF 255 (yN 255 f k) o) (by rw [mS_6, hk]; exact yr_2 255 _ _ (by rw [(yN_inv hI k).2]; exact ho2)) ?_
        refine g_if_lt (tgt := 55) (by decide +kernel : decode prog_10_method_65_code 43 = .ok (.ifCond .lt 12, 3)) (by decide) (fun h43 => ?_) (fun h43 => ?_)
        · refine g_bipush (v := (-3)) (by decide +kernel : decode prog_10_method_65_code 55 = .ok (.bipush (-3), 2)) (by decide) ?_
          exact g_iret hR (by decide +kernel : decode prog_10_method_65_code 57 = .ok (.ireturn, 1)) rfl ⟨_, rfl, ⟨by simp only [finderV, pz_of hI ho2, hk]; rw [hk] at h34; first | rw [if_pos (by omega)] | rw [if_neg (by omega), if_pos h43] | rw [if_neg (by omega), if_neg h43], ⟨_, _, rfl⟩⟩⟩
        · refine g_aload_n (by decide +kernel : decode prog_10_method_65_code 46 = .ok (.aload_n 0, 1)) rfl ?_
          refine g_getR (by decide +kernel : decode prog_10_method_65_code 47 = .ok (.getfield 25, 3)) fl_Md_25 rfl rfl ?_
          refine g_iload_n (by decide +kernel : decode prog_10_method_65_code 50 = .ok (.iload_n 1, 1)) rfl ?_
          refine g_iaload (a := o) (by decide +kernel : decode prog_10_method_65_code 51 = .ok (.iaload, 1)) rfl rfl (by first | omega | (have h9 := shw_le 255 o 61 f; omega) | (have h9 : tn (f (19 + 6 * o + 4)) ≤ 1 := (hI.p ho2 4).2; omega)) (by decide) ?_
          refine g_top (w := fbF 255 (yN 255 f k) o) (by rw [mS_6, hk]; exact yr_2 255 _ _ (by rw [(yN_inv hI k).2]; exact ho2)) ?_
          refine g_goto (tgt := 57) (by decide +kernel : decode prog_10_method_65_code 52 = .ok (.goto 5, 3)) (by decide) ?_
          exact g_iret hR (by decide +kernel : decode prog_10_method_65_code 57 = .ok (.ireturn, 1)) rfl ⟨_, rfl, ⟨by simp only [finderV, pz_of hI ho2, hk]; rw [hk] at h34; first | rw [if_pos (by omega)] | rw [if_neg (by omega), if_pos h43] | rw [if_neg (by omega), if_neg h43], ⟨_, _, rfl⟩⟩⟩
    · refine g_bipush (v := (-3)) (by decide +kernel : decode prog_10_method_65_code 19 = .ok (.bipush (-3), 2)) (by decide) ?_
      exact g_iret hR (by decide +kernel : decode prog_10_method_65_code 21 = .ok (.ireturn, 1)) rfl ⟨_, rfl, ⟨by simp only [finderV, pz_of hI ho2]; rw [show shw 255 o 61 f = 0 from by show (if _ then _ else _) = _; rw [if_neg (fun z => by rw [z, tn_nI (by decide)] at h16; exact absurd h16 (by decide))]], Jk.self _ _ _⟩⟩
  · refine g_if_neN (tgt := 10) (by decide +kernel : decode prog_10_method_65_code 5 = .ok (.ifCond .ne 5, 3)) (by decide) (by decide) (fun h => False.elim (by revert h; decide)) (fun _ => ?_)
    refine g_iconst (v := (-1)) (by decide +kernel : decode prog_10_method_65_code 8 = .ok (.iconst (-1), 1)) (by decide) ?_
    exact g_iret hR (by decide +kernel : decode prog_10_method_65_code 9 = .ok (.ireturn, 1)) rfl ⟨_, rfl, ⟨by simp only [finderV, pz_none hI n2], Jk.self _ _ _⟩⟩
