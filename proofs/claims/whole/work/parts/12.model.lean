/-! THE REFERENCE: what one does, sets, a year -/
/-- the reference's store with the row f and the found-by b -/
def mS (σ : Store) (f b : Row) : Store := s_row (s_row σ 1 f) 6 b
theorem mS_u1 (σ : Store) (f b : Row) (i : Nat) (v : Int32) : s_up (mS σ f b) 1 i v = mS σ (upd f i v) b := by
  funext k
  unfold mS s_up s_row
  by_cases h : k = 1
  · subst h; rfl
  · simp [h]
theorem mS_u6 (σ : Store) (f b : Row) (i : Nat) (v : Int32) : s_up (mS σ f b) 6 i v = mS σ f (upd b i v) := by
  funext k
  unfold mS s_up s_row
  by_cases h : k = 6
  · subst h; rfl
  · simp [h]
theorem mS_self (σ : Store) : mS σ (σ 1) (σ 6) = σ := by
  funext k
  unfold mS s_row
  by_cases h : k = 6
  · subst h; rfl
  · by_cases h1 : k = 1
    · subst h1; rfl
    · simp [h, h1]
theorem m_lst (Λ : Lay) (σ : Store) (x y : Int32) : Ct Λ mt_Md_least 0 [.int x, .int y] σ (PF (lst x y) σ) := m_least Λ σ x y
set_option maxRecDepth 20000 in
theorem m_hides (σ : Store) (f b : Row) (hI : Inv f) (o : Nat) (ho : o < nn f) : Ct ΛM mt_Md_hides 1 [.ref 0, .int (nI o)] (mS σ f b) (PF (hidesF f o) (mS σ f b)) := by
  refine Ct.of (by decide) (Nat.le_of_ble_eq_true rfl) (fun X hR => ?_)
  show G (ΛM, mt_Md_hides, 1) X (mS σ f b) [some (.ref 0), some (.int (nI o)), none] [] 0
  obtain ⟨k, hk, ek⟩ := hI.2.1 o ho 0 (by decide)
  have hk6 : k ≤ 5 := hk
  have hn8 := hI.n.2
  have h3 : tn (f (19 + 6 * o + 3)) ≤ 11 := (hI.p ho 3).2
  refine g_aload_n (by decide +kernel : decode prog_10_method_36_code 0 = .ok (.aload_n 0, 1)) rfl ?_
  refine g_getR (by decide +kernel : decode prog_10_method_36_code 1 = .ok (.getfield 7, 3)) fl_Md_7 rfl rfl ?_
  refine g_bipush (v := nI 7) (by decide +kernel : decode prog_10_method_36_code 4 = .ok (.bipush 7, 2)) (by decide) ?_
  refine g_aload_n (by decide +kernel : decode prog_10_method_36_code 6 = .ok (.aload_n 0, 1)) rfl ?_
  refine g_iload_n (by decide +kernel : decode prog_10_method_36_code 7 = .ok (.iload_n 1, 1)) rfl ?_
  refine g_iconst (v := nI 3) (by decide +kernel : decode prog_10_method_36_code 8 = .ok (.iconst 3, 1)) (by decide) ?_
  refine g_callVI [.int (nI o), .int (nI 3)] (by decide +kernel : decode prog_10_method_36_code 9 = .ok (.invokevirtual 169, 3)) lk_Md_169 (m_its (mS σ f b) o 3 (hI.p ho 3).1 (by omega)) rfl rfl rfl rfl (Nat.le_of_ble_eq_true rfl) (Nat.le_of_ble_eq_true rfl) (fun r9 s9 h9 => ?_)
  obtain ⟨rfl, rfl⟩ := h9
  refine g_iaddN (by decide +kernel : decode prog_10_method_36_code 12 = .ok (.iadd, 1)) ?_
  refine g_iaload (a := 7 + (tn (f (19 + 6 * o + 3)))) (by decide +kernel : decode prog_10_method_36_code 13 = .ok (.iaload, 1)) rfl rfl (by omega) (by decide) ?_
  refine g_top (w := f (7 + (tn (f (19 + 6 * o + 3))))) (rfl) ?_
  refine g_aload_n (by decide +kernel : decode prog_10_method_36_code 14 = .ok (.aload_n 0, 1)) rfl ?_
  refine g_iload_n (by decide +kernel : decode prog_10_method_36_code 15 = .ok (.iload_n 1, 1)) rfl ?_
  refine g_iconst (v := nI 2) (by decide +kernel : decode prog_10_method_36_code 16 = .ok (.iconst 2, 1)) (by decide) ?_
  refine g_callVI [.int (nI o), .int (nI 2)] (by decide +kernel : decode prog_10_method_36_code 17 = .ok (.invokevirtual 169, 3)) lk_Md_169 (m_its (mS σ f b) o 2 (v := f (19 + 6 * o + 2)) rfl (by omega)) rfl rfl rfl rfl (Nat.le_of_ble_eq_true rfl) (Nat.le_of_ble_eq_true rfl) (fun r17 s17 h17 => ?_)
  obtain ⟨rfl, rfl⟩ := h17
  refine g_iadd (by decide +kernel : decode prog_10_method_36_code 20 = .ok (.iadd, 1)) ?_
  refine g_istore_n (L' := [some (.ref 0), some (.int (nI o)), some (.int ((f (7 + (tn (f (19 + 6 * o + 3))))) + (f (19 + 6 * o + 2))))]) (by decide +kernel : decode prog_10_method_36_code 21 = .ok (.istore_n 2, 1)) (Nat.le_of_ble_eq_true rfl) rfl ?_
  refine g_aload_n (by decide +kernel : decode prog_10_method_36_code 22 = .ok (.aload_n 0, 1)) rfl ?_
  refine g_iload_n (by decide +kernel : decode prog_10_method_36_code 23 = .ok (.iload_n 1, 1)) rfl ?_
  refine g_iconst (v := nI 0) (by decide +kernel : decode prog_10_method_36_code 24 = .ok (.iconst 0, 1)) (by decide) ?_
  refine g_callVI [.int (nI o), .int (nI 0)] (by decide +kernel : decode prog_10_method_36_code 25 = .ok (.invokevirtual 169, 3)) lk_Md_169 (m_its (mS σ f b) o 0 (v := nI k) ek (by omega)) rfl rfl rfl rfl (Nat.le_of_ble_eq_true rfl) (Nat.le_of_ble_eq_true rfl) (fun r25 s25 h25 => ?_)
  obtain ⟨rfl, rfl⟩ := h25
  rcases (show k = 0 ∨ k = 1 ∨ k = 2 ∨ k = 3 ∨ k = 4 ∨ k = 5 by omega) with rfl | rfl | rfl | rfl | rfl | rfl
  · refine g_tableOut (x := nI 0) (tgt := 101) (by decide +kernel : decode prog_10_method_36_code 28 = .ok (.tableswitch 73 1 5 #[36, 40, 44, 50, 64], 36)) (by decide) (by decide) ?_
    refine g_iload_n (by decide +kernel : decode prog_10_method_36_code 101 = .ok (.iload_n 2, 1)) rfl ?_
    exact g_iret hR (by decide +kernel : decode prog_10_method_36_code 102 = .ok (.ireturn, 1)) rfl ⟨_, rfl, ⟨by simp only [hidesF, ek, tn_nI (show 0 < 2 ^ 31 by decide)], rfl⟩⟩
  · refine g_tableIn (x := nI 1) (off := 36) (tgt := 64) (by decide +kernel : decode prog_10_method_36_code 28 = .ok (.tableswitch 73 1 5 #[36, 40, 44, 50, 64], 36)) (by decide) (by decide) rfl (by decide) ?_
    refine g_iload_n (by decide +kernel : decode prog_10_method_36_code 64 = .ok (.iload_n 2, 1)) rfl ?_
    refine g_iconst (v := nI 2) (by decide +kernel : decode prog_10_method_36_code 65 = .ok (.iconst 2, 1)) (by decide) ?_
    refine g_idiv (by decide +kernel : decode prog_10_method_36_code 66 = .ok (.idiv, 1)) (by decide) ?_
    exact g_iret hR (by decide +kernel : decode prog_10_method_36_code 67 = .ok (.ireturn, 1)) rfl ⟨_, rfl, ⟨by simp only [hidesF, ek, tn_nI (show 1 < 2 ^ 31 by decide)], rfl⟩⟩
  · refine g_tableIn (x := nI 2) (off := 40) (tgt := 68) (by decide +kernel : decode prog_10_method_36_code 28 = .ok (.tableswitch 73 1 5 #[36, 40, 44, 50, 64], 36)) (by decide) (by decide) rfl (by decide) ?_
    refine g_iload_n (by decide +kernel : decode prog_10_method_36_code 68 = .ok (.iload_n 2, 1)) rfl ?_
    refine g_iconst (v := nI 3) (by decide +kernel : decode prog_10_method_36_code 69 = .ok (.iconst 3, 1)) (by decide) ?_
    refine g_isub (by decide +kernel : decode prog_10_method_36_code 70 = .ok (.isub, 1)) ?_
    exact g_iret hR (by decide +kernel : decode prog_10_method_36_code 71 = .ok (.ireturn, 1)) rfl ⟨_, rfl, ⟨by simp only [hidesF, ek, tn_nI (show 2 < 2 ^ 31 by decide)], rfl⟩⟩
  · refine g_tableIn (x := nI 3) (off := 44) (tgt := 72) (by decide +kernel : decode prog_10_method_36_code 28 = .ok (.tableswitch 73 1 5 #[36, 40, 44, 50, 64], 36)) (by decide) (by decide) rfl (by decide) ?_
    refine g_iload_n (by decide +kernel : decode prog_10_method_36_code 72 = .ok (.iload_n 2, 1)) rfl ?_
    refine g_iconst (v := nI 2) (by decide +kernel : decode prog_10_method_36_code 73 = .ok (.iconst 2, 1)) (by decide) ?_
    refine g_idiv (by decide +kernel : decode prog_10_method_36_code 74 = .ok (.idiv, 1)) (by decide) ?_
    refine g_iconst (v := nI 2) (by decide +kernel : decode prog_10_method_36_code 75 = .ok (.iconst 2, 1)) (by decide) ?_
    refine g_iadd (by decide +kernel : decode prog_10_method_36_code 76 = .ok (.iadd, 1)) ?_
    exact g_iret hR (by decide +kernel : decode prog_10_method_36_code 77 = .ok (.ireturn, 1)) rfl ⟨_, rfl, ⟨by simp only [hidesF, ek, tn_nI (show 3 < 2 ^ 31 by decide)], rfl⟩⟩
  · refine g_tableIn (x := nI 4) (off := 50) (tgt := 78) (by decide +kernel : decode prog_10_method_36_code 28 = .ok (.tableswitch 73 1 5 #[36, 40, 44, 50, 64], 36)) (by decide) (by decide) rfl (by decide) ?_
    refine g_iload_n (by decide +kernel : decode prog_10_method_36_code 78 = .ok (.iload_n 2, 1)) rfl ?_
    refine g_iconst (v := nI 3) (by decide +kernel : decode prog_10_method_36_code 79 = .ok (.iconst 3, 1)) (by decide) ?_
    refine g_isub (by decide +kernel : decode prog_10_method_36_code 80 = .ok (.isub, 1)) ?_
    refine g_aload_n (by decide +kernel : decode prog_10_method_36_code 81 = .ok (.aload_n 0, 1)) rfl ?_
    refine g_iload_n (by decide +kernel : decode prog_10_method_36_code 82 = .ok (.iload_n 1, 1)) rfl ?_
    refine g_iconst (v := nI 1) (by decide +kernel : decode prog_10_method_36_code 83 = .ok (.iconst 1, 1)) (by decide) ?_
    refine g_callVI [.int (nI o), .int (nI 1)] (by decide +kernel : decode prog_10_method_36_code 84 = .ok (.invokevirtual 169, 3)) lk_Md_169 (m_its (mS σ f b) o 1 (v := f (19 + 6 * o + 1)) rfl (by omega)) rfl rfl rfl rfl (Nat.le_of_ble_eq_true rfl) (Nat.le_of_ble_eq_true rfl) (fun r84 s84 h84 => ?_)
    obtain ⟨rfl, rfl⟩ := h84
    refine g_bipush (v := nI 10) (by decide +kernel : decode prog_10_method_36_code 87 = .ok (.bipush 10, 2)) (by decide) ?_
    refine g_idiv (by decide +kernel : decode prog_10_method_36_code 89 = .ok (.idiv, 1)) (by decide) ?_
    refine g_iadd (by decide +kernel : decode prog_10_method_36_code 90 = .ok (.iadd, 1)) ?_
    exact g_iret hR (by decide +kernel : decode prog_10_method_36_code 91 = .ok (.ireturn, 1)) rfl ⟨_, rfl, ⟨by simp only [hidesF, ek, tn_nI (show 4 < 2 ^ 31 by decide)], rfl⟩⟩
  · refine g_tableIn (x := nI 5) (off := 64) (tgt := 92) (by decide +kernel : decode prog_10_method_36_code 28 = .ok (.tableswitch 73 1 5 #[36, 40, 44, 50, 64], 36)) (by decide) (by decide) rfl (by decide) ?_
    refine g_iload_n (by decide +kernel : decode prog_10_method_36_code 92 = .ok (.iload_n 2, 1)) rfl ?_
    refine g_aload_n (by decide +kernel : decode prog_10_method_36_code 93 = .ok (.aload_n 0, 1)) rfl ?_
    refine g_getR (by decide +kernel : decode prog_10_method_36_code 94 = .ok (.getfield 7, 3)) fl_Md_7 rfl rfl ?_
    refine g_iconst (v := nI 4) (by decide +kernel : decode prog_10_method_36_code 97 = .ok (.iconst 4, 1)) (by decide) ?_
    refine g_iaload (a := 4) (by decide +kernel : decode prog_10_method_36_code 98 = .ok (.iaload, 1)) rfl rfl (by decide) (by decide) ?_
    refine g_top (w := f 4) (rfl) ?_
    refine g_iadd (by decide +kernel : decode prog_10_method_36_code 99 = .ok (.iadd, 1)) ?_
    exact g_iret hR (by decide +kernel : decode prog_10_method_36_code 100 = .ok (.ireturn, 1)) rfl ⟨_, rfl, ⟨by simp only [hidesF, ek, tn_nI (show 5 < 2 ^ 31 by decide)], rfl⟩⟩
set_option maxRecDepth 20000 in
theorem m_strides (σ : Store) (f b : Row) (hI : Inv f) (o : Nat) (ho : o < nn f) : Ct ΛM mt_Md_strides 1 [.ref 0, .int (nI o)] (mS σ f b) (PF (stridesF f o) (mS σ f b)) := by
  refine Ct.of (by decide) (Nat.le_of_ble_eq_true rfl) (fun X hR => ?_)
  show G (ΛM, mt_Md_strides, 1) X (mS σ f b) [some (.ref 0), some (.int (nI o))] [] 0
  obtain ⟨k, hk, ek⟩ := hI.2.1 o ho 0 (by decide)
  have hk6 : k ≤ 5 := hk
  have hn8 := hI.n.2
  have h3 : tn (f (19 + 6 * o + 3)) ≤ 11 := (hI.p ho 3).2
  refine g_aload_n (by decide +kernel : decode prog_10_method_38_code 0 = .ok (.aload_n 0, 1)) rfl ?_
  refine g_iload_n (by decide +kernel : decode prog_10_method_38_code 1 = .ok (.iload_n 1, 1)) rfl ?_
  refine g_iconst (v := nI 0) (by decide +kernel : decode prog_10_method_38_code 2 = .ok (.iconst 0, 1)) (by decide) ?_
  refine g_callVI [.int (nI o), .int (nI 0)] (by decide +kernel : decode prog_10_method_38_code 3 = .ok (.invokevirtual 169, 3)) lk_Md_169 (m_its (mS σ f b) o 0 (v := nI k) ek (by omega)) rfl rfl rfl rfl (Nat.le_of_ble_eq_true rfl) (Nat.le_of_ble_eq_true rfl) (fun r3 s3 h3 => ?_)
  obtain ⟨rfl, rfl⟩ := h3
  rcases (show k = 0 ∨ k = 1 ∨ k = 2 ∨ k = 3 ∨ k = 4 ∨ k = 5 by omega) with rfl | rfl | rfl | rfl | rfl | rfl
  · refine g_tableOut (x := nI 0) (tgt := 51) (by decide +kernel : decode prog_10_method_38_code 6 = .ok (.tableswitch 45 1 5 #[34, 36, 38, 40, 43], 34)) (by decide) (by decide) ?_
    refine g_iconst (v := nI 1) (by decide +kernel : decode prog_10_method_38_code 51 = .ok (.iconst 1, 1)) (by decide) ?_
    exact g_iret hR (by decide +kernel : decode prog_10_method_38_code 52 = .ok (.ireturn, 1)) rfl ⟨_, rfl, ⟨by simp only [stridesF, ek, tn_nI (show 0 < 2 ^ 31 by decide)], rfl⟩⟩
  · refine g_tableIn (x := nI 1) (off := 34) (tgt := 40) (by decide +kernel : decode prog_10_method_38_code 6 = .ok (.tableswitch 45 1 5 #[34, 36, 38, 40, 43], 34)) (by decide) (by decide) rfl (by decide) ?_
    refine g_iconst (v := nI 2) (by decide +kernel : decode prog_10_method_38_code 40 = .ok (.iconst 2, 1)) (by decide) ?_
    exact g_iret hR (by decide +kernel : decode prog_10_method_38_code 41 = .ok (.ireturn, 1)) rfl ⟨_, rfl, ⟨by simp only [stridesF, ek, tn_nI (show 1 < 2 ^ 31 by decide)], rfl⟩⟩
  · refine g_tableIn (x := nI 2) (off := 36) (tgt := 42) (by decide +kernel : decode prog_10_method_38_code 6 = .ok (.tableswitch 45 1 5 #[34, 36, 38, 40, 43], 34)) (by decide) (by decide) rfl (by decide) ?_
    refine g_iconst (v := (-1)) (by decide +kernel : decode prog_10_method_38_code 42 = .ok (.iconst (-1), 1)) (by decide) ?_
    exact g_iret hR (by decide +kernel : decode prog_10_method_38_code 43 = .ok (.ireturn, 1)) rfl ⟨_, rfl, ⟨by simp only [stridesF, ek, tn_nI (show 2 < 2 ^ 31 by decide)], rfl⟩⟩
  · refine g_tableIn (x := nI 3) (off := 38) (tgt := 44) (by decide +kernel : decode prog_10_method_38_code 6 = .ok (.tableswitch 45 1 5 #[34, 36, 38, 40, 43], 34)) (by decide) (by decide) rfl (by decide) ?_
    refine g_iconst (v := nI 3) (by decide +kernel : decode prog_10_method_38_code 44 = .ok (.iconst 3, 1)) (by decide) ?_
    exact g_iret hR (by decide +kernel : decode prog_10_method_38_code 45 = .ok (.ireturn, 1)) rfl ⟨_, rfl, ⟨by simp only [stridesF, ek, tn_nI (show 3 < 2 ^ 31 by decide)], rfl⟩⟩
  · refine g_tableIn (x := nI 4) (off := 40) (tgt := 46) (by decide +kernel : decode prog_10_method_38_code 6 = .ok (.tableswitch 45 1 5 #[34, 36, 38, 40, 43], 34)) (by decide) (by decide) rfl (by decide) ?_
    refine g_bipush (v := (-2)) (by decide +kernel : decode prog_10_method_38_code 46 = .ok (.bipush (-2), 2)) (by decide) ?_
    exact g_iret hR (by decide +kernel : decode prog_10_method_38_code 48 = .ok (.ireturn, 1)) rfl ⟨_, rfl, ⟨by simp only [stridesF, ek, tn_nI (show 4 < 2 ^ 31 by decide)], rfl⟩⟩
  · refine g_tableIn (x := nI 5) (off := 43) (tgt := 49) (by decide +kernel : decode prog_10_method_38_code 6 = .ok (.tableswitch 45 1 5 #[34, 36, 38, 40, 43], 34)) (by decide) (by decide) rfl (by decide) ?_
    refine g_iconst (v := nI 0) (by decide +kernel : decode prog_10_method_38_code 49 = .ok (.iconst 0, 1)) (by decide) ?_
    exact g_iret hR (by decide +kernel : decode prog_10_method_38_code 50 = .ok (.ireturn, 1)) rfl ⟨_, rfl, ⟨by simp only [stridesF, ek, tn_nI (show 5 < 2 ^ 31 by decide)], rfl⟩⟩
set_option maxRecDepth 20000 in
theorem m_sees (σ : Store) (f b : Row) (hI : Inv f) (o : Nat) (ho : o < nn f) : Ct ΛM mt_Md_sees 1 [.ref 0, .int (nI o)] (mS σ f b) (PF (seesF f o) (mS σ f b)) := by
  refine Ct.of (by decide) (Nat.le_of_ble_eq_true rfl) (fun X hR => ?_)
  show G (ΛM, mt_Md_sees, 1) X (mS σ f b) [some (.ref 0), some (.int (nI o)), none] [] 0
  obtain ⟨k, hk, ek⟩ := hI.2.1 o ho 0 (by decide)
  have hk6 : k ≤ 5 := hk
  have hn8 := hI.n.2
  have h3 : tn (f (19 + 6 * o + 3)) ≤ 11 := (hI.p ho 3).2
  refine g_iconst (v := nI 3) (by decide +kernel : decode prog_10_method_37_code 0 = .ok (.iconst 3, 1)) (by decide) ?_
  refine g_aload_n (by decide +kernel : decode prog_10_method_37_code 1 = .ok (.aload_n 0, 1)) rfl ?_
  refine g_iload_n (by decide +kernel : decode prog_10_method_37_code 2 = .ok (.iload_n 1, 1)) rfl ?_
  refine g_iconst (v := nI 2) (by decide +kernel : decode prog_10_method_37_code 3 = .ok (.iconst 2, 1)) (by decide) ?_
  refine g_callVI [.int (nI o), .int (nI 2)] (by decide +kernel : decode prog_10_method_37_code 4 = .ok (.invokevirtual 169, 3)) lk_Md_169 (m_its (mS σ f b) o 2 (v := f (19 + 6 * o + 2)) rfl (by omega)) rfl rfl rfl rfl (Nat.le_of_ble_eq_true rfl) (Nat.le_of_ble_eq_true rfl) (fun r4 s4 h4 => ?_)
  obtain ⟨rfl, rfl⟩ := h4
  refine g_iadd (by decide +kernel : decode prog_10_method_37_code 7 = .ok (.iadd, 1)) ?_
  refine g_istore_n (L' := [some (.ref 0), some (.int (nI o)), some (.int ((nI 3) + (f (19 + 6 * o + 2))))]) (by decide +kernel : decode prog_10_method_37_code 8 = .ok (.istore_n 2, 1)) (Nat.le_of_ble_eq_true rfl) rfl ?_
  refine g_aload_n (by decide +kernel : decode prog_10_method_37_code 9 = .ok (.aload_n 0, 1)) rfl ?_
  refine g_iload_n (by decide +kernel : decode prog_10_method_37_code 10 = .ok (.iload_n 1, 1)) rfl ?_
  refine g_iconst (v := nI 0) (by decide +kernel : decode prog_10_method_37_code 11 = .ok (.iconst 0, 1)) (by decide) ?_
  refine g_callVI [.int (nI o), .int (nI 0)] (by decide +kernel : decode prog_10_method_37_code 12 = .ok (.invokevirtual 169, 3)) lk_Md_169 (m_its (mS σ f b) o 0 (v := nI k) ek (by omega)) rfl rfl rfl rfl (Nat.le_of_ble_eq_true rfl) (Nat.le_of_ble_eq_true rfl) (fun r12 s12 h12 => ?_)
  obtain ⟨rfl, rfl⟩ := h12
  rcases (show k = 0 ∨ k = 1 ∨ k = 2 ∨ k = 3 ∨ k = 4 ∨ k = 5 by omega) with rfl | rfl | rfl | rfl | rfl | rfl
  · refine g_tableOut (x := nI 0) (tgt := 100) (by decide +kernel : decode prog_10_method_37_code 15 = .ok (.tableswitch 85 1 5 #[33, 42, 46, 57, 68], 33)) (by decide) (by decide) ?_
    refine g_iload_n (by decide +kernel : decode prog_10_method_37_code 100 = .ok (.iload_n 2, 1)) rfl ?_
    exact g_iret hR (by decide +kernel : decode prog_10_method_37_code 101 = .ok (.ireturn, 1)) rfl ⟨_, rfl, ⟨by simp only [seesF, ek, tn_nI (show 0 < 2 ^ 31 by decide)], rfl⟩⟩
  · refine g_tableIn (x := nI 1) (off := 33) (tgt := 48) (by decide +kernel : decode prog_10_method_37_code 15 = .ok (.tableswitch 85 1 5 #[33, 42, 46, 57, 68], 33)) (by decide) (by decide) rfl (by decide) ?_
    refine g_iload_n (by decide +kernel : decode prog_10_method_37_code 48 = .ok (.iload_n 2, 1)) rfl ?_
    refine g_aload_n (by decide +kernel : decode prog_10_method_37_code 49 = .ok (.aload_n 0, 1)) rfl ?_
    refine g_getR (by decide +kernel : decode prog_10_method_37_code 50 = .ok (.getfield 7, 3)) fl_Md_7 rfl rfl ?_
    refine g_iconst (v := nI 5) (by decide +kernel : decode prog_10_method_37_code 53 = .ok (.iconst 5, 1)) (by decide) ?_
    refine g_iaload (a := 5) (by decide +kernel : decode prog_10_method_37_code 54 = .ok (.iaload, 1)) rfl rfl (by decide) (by decide) ?_
    refine g_top (w := f 5) (rfl) ?_
    refine g_iadd (by decide +kernel : decode prog_10_method_37_code 55 = .ok (.iadd, 1)) ?_
    exact g_iret hR (by decide +kernel : decode prog_10_method_37_code 56 = .ok (.ireturn, 1)) rfl ⟨_, rfl, ⟨by simp only [seesF, ek, tn_nI (show 1 < 2 ^ 31 by decide)], rfl⟩⟩
  · refine g_tableIn (x := nI 2) (off := 42) (tgt := 57) (by decide +kernel : decode prog_10_method_37_code 15 = .ok (.tableswitch 85 1 5 #[33, 42, 46, 57, 68], 33)) (by decide) (by decide) rfl (by decide) ?_
    refine g_iload_n (by decide +kernel : decode prog_10_method_37_code 57 = .ok (.iload_n 2, 1)) rfl ?_
    refine g_iconst (v := nI 4) (by decide +kernel : decode prog_10_method_37_code 58 = .ok (.iconst 4, 1)) (by decide) ?_
    refine g_iadd (by decide +kernel : decode prog_10_method_37_code 59 = .ok (.iadd, 1)) ?_
    exact g_iret hR (by decide +kernel : decode prog_10_method_37_code 60 = .ok (.ireturn, 1)) rfl ⟨_, rfl, ⟨by simp only [seesF, ek, tn_nI (show 2 < 2 ^ 31 by decide)], rfl⟩⟩
  · refine g_tableIn (x := nI 3) (off := 46) (tgt := 61) (by decide +kernel : decode prog_10_method_37_code 15 = .ok (.tableswitch 85 1 5 #[33, 42, 46, 57, 68], 33)) (by decide) (by decide) rfl (by decide) ?_
    refine g_iconst (v := nI 2) (by decide +kernel : decode prog_10_method_37_code 61 = .ok (.iconst 2, 1)) (by decide) ?_
    refine g_iload_n (by decide +kernel : decode prog_10_method_37_code 62 = .ok (.iload_n 2, 1)) rfl ?_
    refine g_aload_n (by decide +kernel : decode prog_10_method_37_code 63 = .ok (.aload_n 0, 1)) rfl ?_
    refine g_getR (by decide +kernel : decode prog_10_method_37_code 64 = .ok (.getfield 7, 3)) fl_Md_7 rfl rfl ?_
    refine g_iconst (v := nI 5) (by decide +kernel : decode prog_10_method_37_code 67 = .ok (.iconst 5, 1)) (by decide) ?_
    refine g_iaload (a := 5) (by decide +kernel : decode prog_10_method_37_code 68 = .ok (.iaload, 1)) rfl rfl (by decide) (by decide) ?_
    refine g_top (w := f 5) (rfl) ?_
    refine g_iadd (by decide +kernel : decode prog_10_method_37_code 69 = .ok (.iadd, 1)) ?_
    refine g_imul (by decide +kernel : decode prog_10_method_37_code 70 = .ok (.imul, 1)) ?_
    exact g_iret hR (by decide +kernel : decode prog_10_method_37_code 71 = .ok (.ireturn, 1)) rfl ⟨_, rfl, ⟨by simp only [seesF, ek, tn_nI (show 3 < 2 ^ 31 by decide)], rfl⟩⟩
  · refine g_tableIn (x := nI 4) (off := 57) (tgt := 72) (by decide +kernel : decode prog_10_method_37_code 15 = .ok (.tableswitch 85 1 5 #[33, 42, 46, 57, 68], 33)) (by decide) (by decide) rfl (by decide) ?_
    refine g_iload_n (by decide +kernel : decode prog_10_method_37_code 72 = .ok (.iload_n 2, 1)) rfl ?_
    refine g_iconst (v := nI 4) (by decide +kernel : decode prog_10_method_37_code 73 = .ok (.iconst 4, 1)) (by decide) ?_
    refine g_iadd (by decide +kernel : decode prog_10_method_37_code 74 = .ok (.iadd, 1)) ?_
    refine g_aload_n (by decide +kernel : decode prog_10_method_37_code 75 = .ok (.aload_n 0, 1)) rfl ?_
    refine g_getR (by decide +kernel : decode prog_10_method_37_code 76 = .ok (.getfield 7, 3)) fl_Md_7 rfl rfl ?_
    refine g_iconst (v := nI 4) (by decide +kernel : decode prog_10_method_37_code 79 = .ok (.iconst 4, 1)) (by decide) ?_
    refine g_iaload (a := 4) (by decide +kernel : decode prog_10_method_37_code 80 = .ok (.iaload, 1)) rfl rfl (by decide) (by decide) ?_
    refine g_top (w := f 4) (rfl) ?_
    refine g_isub (by decide +kernel : decode prog_10_method_37_code 81 = .ok (.isub, 1)) ?_
    exact g_iret hR (by decide +kernel : decode prog_10_method_37_code 82 = .ok (.ireturn, 1)) rfl ⟨_, rfl, ⟨by simp only [seesF, ek, tn_nI (show 4 < 2 ^ 31 by decide)], rfl⟩⟩
  · refine g_tableIn (x := nI 5) (off := 68) (tgt := 83) (by decide +kernel : decode prog_10_method_37_code 15 = .ok (.tableswitch 85 1 5 #[33, 42, 46, 57, 68], 33)) (by decide) (by decide) rfl (by decide) ?_
    refine g_aload_n (by decide +kernel : decode prog_10_method_37_code 83 = .ok (.aload_n 0, 1)) rfl ?_
    refine g_getR (by decide +kernel : decode prog_10_method_37_code 84 = .ok (.getfield 7, 3)) fl_Md_7 rfl rfl ?_
    refine g_iconst (v := nI 1) (by decide +kernel : decode prog_10_method_37_code 87 = .ok (.iconst 1, 1)) (by decide) ?_
    refine g_iaload (a := 1) (by decide +kernel : decode prog_10_method_37_code 88 = .ok (.iaload, 1)) rfl rfl (by decide) (by decide) ?_
    refine g_top (w := f 1) (rfl) ?_
    refine g_iconst (v := nI 2) (by decide +kernel : decode prog_10_method_37_code 89 = .ok (.iconst 2, 1)) (by decide) ?_
    refine g_irem (by decide +kernel : decode prog_10_method_37_code 90 = .ok (.irem, 1)) (by decide) ?_
    refine g_if_ne (tgt := 98) (by decide +kernel : decode prog_10_method_37_code 91 = .ok (.ifCond .ne 7, 3)) (by decide) (fun h91 => ?_) (fun h91 => ?_)
    · refine g_iconst (v := nI 0) (by decide +kernel : decode prog_10_method_37_code 98 = .ok (.iconst 0, 1)) (by decide) ?_
      exact g_iret hR (by decide +kernel : decode prog_10_method_37_code 99 = .ok (.ireturn, 1)) rfl ⟨_, rfl, ⟨by simp only [seesF, ek, tn_nI (show 5 < 2 ^ 31 by decide), h91, ↓reduceIte], rfl⟩⟩
    · refine g_iload_n (by decide +kernel : decode prog_10_method_37_code 94 = .ok (.iload_n 2, 1)) rfl ?_
      refine g_goto (tgt := 99) (by decide +kernel : decode prog_10_method_37_code 95 = .ok (.goto 4, 3)) (by decide) ?_
      exact g_iret hR (by decide +kernel : decode prog_10_method_37_code 99 = .ok (.ireturn, 1)) rfl ⟨_, rfl, ⟨by simp only [seesF, ek, tn_nI (show 5 < 2 ^ 31 by decide), h91, ↓reduceIte], rfl⟩⟩
set_option maxRecDepth 20000 in
theorem m_hid_lp {X : CX} {σ : Store} {f b : Row} (hI : Inv f) : ∀ (b9 k : Nat), k ≤ nn f → nn f - k < b9 → Rt (ΛM, mt_Md_hiddenOnes, 1) (PF (nI (msk f (nn f))) (mS σ f b)) X → G (ΛM, mt_Md_hiddenOnes, 1) X (mS σ f b) [some (.ref 0), some (.int (nI (msk f k))), some (.int (nI k))] [] 4 := by
  have hn8 := hI.n.2
  intro b9
  induction b9 with
  | zero => intro k hk hb hR; omega
  | succ b9 ih =>
  intro k hk hb hR
  refine g_iload_n (by decide +kernel : decode prog_10_method_46_code 4 = .ok (.iload_n 2, 1)) rfl ?_
  refine g_aload_n (by decide +kernel : decode prog_10_method_46_code 5 = .ok (.aload_n 0, 1)) rfl ?_
  refine g_getR (by decide +kernel : decode prog_10_method_46_code 6 = .ok (.getfield 7, 3)) fl_Md_7 rfl rfl ?_
  refine g_iconst (v := nI 0) (by decide +kernel : decode prog_10_method_46_code 9 = .ok (.iconst 0, 1)) (by decide) ?_
  refine g_iaload (a := 0) (by decide +kernel : decode prog_10_method_46_code 10 = .ok (.iaload, 1)) rfl rfl (by decide) (by decide) ?_
  refine g_top (w := nI (nn f)) (hI.n.1) ?_
  refine g_icmp_geN (tgt := 31) (by decide +kernel : decode prog_10_method_46_code 11 = .ok (.if_icmp .ge 20, 3)) (by decide) (by omega) (by omega) (fun h11 => ?_) (fun h11 => ?_)
  · refine g_iload_n (by decide +kernel : decode prog_10_method_46_code 31 = .ok (.iload_n 1, 1)) rfl ?_
    exact g_iret hR (by decide +kernel : decode prog_10_method_46_code 32 = .ok (.ireturn, 1)) rfl ⟨_, rfl, ⟨by rw [show k = nn f by omega], rfl⟩⟩
  · refine g_iload_n (by decide +kernel : decode prog_10_method_46_code 14 = .ok (.iload_n 1, 1)) rfl ?_
    refine g_aload_n (by decide +kernel : decode prog_10_method_46_code 15 = .ok (.aload_n 0, 1)) rfl ?_
    refine g_iload_n (by decide +kernel : decode prog_10_method_46_code 16 = .ok (.iload_n 2, 1)) rfl ?_
    refine g_iconst (v := nI 4) (by decide +kernel : decode prog_10_method_46_code 17 = .ok (.iconst 4, 1)) (by decide) ?_
    refine g_callVI [.int (nI k), .int (nI 4)] (by decide +kernel : decode prog_10_method_46_code 18 = .ok (.invokevirtual 169, 3)) lk_Md_169 (m_its (mS σ f b) k 4 (hI.p (o := k) (by omega) 4).1 (by omega)) rfl rfl rfl rfl (Nat.le_of_ble_eq_true rfl) (Nat.le_of_ble_eq_true rfl) (fun r18 s18 h18 => ?_)
    obtain ⟨rfl, rfl⟩ := h18
    refine g_iload_n (by decide +kernel : decode prog_10_method_46_code 21 = .ok (.iload_n 2, 1)) rfl ?_
    refine g_ishl (by decide +kernel : decode prog_10_method_46_code 22 = .ok (.ishl, 1)) ?_
    refine g_top (w := nI (tn (f (19 + 6 * k + 4)) * 2 ^ k)) (nI_shl1 ⟨_, Nat.lt_succ_of_le (hI.p (o := k) (by omega) 4).2⟩ ⟨k, by omega⟩) ?_
    refine g_ior (by decide +kernel : decode prog_10_method_46_code 23 = .ok (.ior, 1)) ?_
    refine g_top (w := nI (msk f (k + 1))) (by rw [nI_or, or_add (hI.msk hk) (hI.p (o := k) (by omega) 4).2]; rfl) ?_
    refine g_istore_n (L' := [some (.ref 0), some (.int (nI (msk f (k + 1)))), some (.int (nI k))]) (by decide +kernel : decode prog_10_method_46_code 24 = .ok (.istore_n 1, 1)) (Nat.le_of_ble_eq_true rfl) rfl ?_
    refine g_iincN (n := 1) (L' := [some (.ref 0), some (.int (nI (msk f (k + 1)))), some (.int (nI (k + 1)))]) (by decide +kernel : decode prog_10_method_46_code 25 = .ok (.iinc 2 1, 3)) rfl (by decide) (Nat.le_of_ble_eq_true rfl) rfl ?_
    refine g_goto (tgt := 4) (by decide +kernel : decode prog_10_method_46_code 28 = .ok (.goto (-24), 3)) (by decide) ?_
    exact ih (k + 1) (by omega) (by omega) hR
set_option maxRecDepth 20000 in
theorem m_hiddenOnes (σ : Store) (f b : Row) (hI : Inv f) : Ct ΛM mt_Md_hiddenOnes 1 [.ref 0] (mS σ f b) (PF (nI (msk f (nn f))) (mS σ f b)) := by
  refine Ct.of (by decide) (Nat.le_of_ble_eq_true rfl) (fun X hR => ?_)
  show G (ΛM, mt_Md_hiddenOnes, 1) X (mS σ f b) [some (.ref 0), none, none] [] 0
  refine g_iconst (v := nI 0) (by decide +kernel : decode prog_10_method_46_code 0 = .ok (.iconst 0, 1)) (by decide) ?_
  refine g_istore_n (L' := [some (.ref 0), some (.int (nI 0)), none]) (by decide +kernel : decode prog_10_method_46_code 1 = .ok (.istore_n 1, 1)) (Nat.le_of_ble_eq_true rfl) rfl ?_
  refine g_iconst (v := nI 0) (by decide +kernel : decode prog_10_method_46_code 2 = .ok (.iconst 0, 1)) (by decide) ?_
  refine g_istore_n (L' := [some (.ref 0), some (.int (nI 0)), some (.int (nI 0))]) (by decide +kernel : decode prog_10_method_46_code 3 = .ok (.istore_n 2, 1)) (Nat.le_of_ble_eq_true rfl) rfl ?_
  exact m_hid_lp hI (nn f + 1) 0 (Nat.zero_le _) (by omega) hR
/-- those at a place -/
def atm (f : Row) (p : Nat) : Nat → Nat
  | 0 => 0
  | k + 1 => atm f p k + (if tn (f (19 + 6 * k + 3)) = p then 1 else 0) * 2 ^ k
theorem ite1 (c : Prop) [Decidable c] : (if c then 1 else 0 : Nat) ≤ 1 := by split <;> decide
theorem atm_lt (f : Row) (p : Nat) : ∀ k, atm f p k < 2 ^ k := by
  intro k
  induction k with
  | zero => show 0 < 1; decide
  | succ k ih =>
    unfold atm
    have := Nat.mul_le_mul_right (2 ^ k) (ite1 (tn (f (19 + 6 * k + 3)) = p))
    rw [Nat.pow_succ]; omega
theorem nI_1shl {k : Nat} (h : k < 12) : nI 1 <<< (nI k &&& 31) = nI (1 * 2 ^ k) := nI_shl1 1 ⟨k, h⟩
set_option maxRecDepth 20000 in
theorem m_thoseAt_lp {X : CX} {σ : Store} {f b : Row} (hI : Inv f) {p : Nat} (hp : p < 12) : ∀ (b9 k : Nat), k ≤ nn f → nn f - k < b9 → Rt (ΛM, mt_Md_thoseAt, 1) (PF (nI (atm f p (nn f))) (mS σ f b)) X → G (ΛM, mt_Md_thoseAt, 1) X (mS σ f b) [some (.ref 0), some (.int (nI p)), some (.int (nI (atm f p k))), some (.int (nI k))] [] 4 := by
  have hn8 := hI.n.2
  intro b9
  induction b9 with
  | zero => intro k hk hb hR; omega
  | succ b9 ih =>
  intro k hk hb hR
  refine g_iload_n (by decide +kernel : decode prog_10_method_45_code 4 = .ok (.iload_n 3, 1)) rfl ?_
  refine g_aload_n (by decide +kernel : decode prog_10_method_45_code 5 = .ok (.aload_n 0, 1)) rfl ?_
  refine g_getR (by decide +kernel : decode prog_10_method_45_code 6 = .ok (.getfield 7, 3)) fl_Md_7 rfl rfl ?_
  refine g_iconst (v := nI 0) (by decide +kernel : decode prog_10_method_45_code 9 = .ok (.iconst 0, 1)) (by decide) ?_
  refine g_iaload (a := 0) (by decide +kernel : decode prog_10_method_45_code 10 = .ok (.iaload, 1)) rfl rfl (by decide) (by decide) ?_
  refine g_top (w := nI (nn f)) (hI.n.1) ?_
  refine g_icmp_geN (tgt := 40) (by decide +kernel : decode prog_10_method_45_code 11 = .ok (.if_icmp .ge 29, 3)) (by decide) (by first | omega | (have h9 : tn (f (19 + 6 * k + 3)) ≤ 11 := (hI.p (o := k) (by omega) 3).2; omega)) (by first | omega | (have h9 : tn (f (19 + 6 * k + 3)) ≤ 11 := (hI.p (o := k) (by omega) 3).2; omega)) (fun h11 => ?_) (fun h11 => ?_)
  · refine g_iload_n (by decide +kernel : decode prog_10_method_45_code 40 = .ok (.iload_n 2, 1)) rfl ?_
    exact g_iret hR (by decide +kernel : decode prog_10_method_45_code 41 = .ok (.ireturn, 1)) rfl ⟨_, rfl, ⟨by rw [show k = nn f by omega], rfl⟩⟩
  · refine g_iload_n (by decide +kernel : decode prog_10_method_45_code 14 = .ok (.iload_n 2, 1)) rfl ?_
    refine g_aload_n (by decide +kernel : decode prog_10_method_45_code 15 = .ok (.aload_n 0, 1)) rfl ?_
    refine g_iload_n (by decide +kernel : decode prog_10_method_45_code 16 = .ok (.iload_n 3, 1)) rfl ?_
    refine g_iconst (v := nI 3) (by decide +kernel : decode prog_10_method_45_code 17 = .ok (.iconst 3, 1)) (by decide) ?_
    refine g_callVI [.int (nI k), .int (nI 3)] (by decide +kernel : decode prog_10_method_45_code 18 = .ok (.invokevirtual 169, 3)) lk_Md_169 (m_its (mS σ f b) k 3 (hI.p (o := k) (by omega) 3).1 (by omega)) rfl rfl rfl rfl (Nat.le_of_ble_eq_true rfl) (Nat.le_of_ble_eq_true rfl) (fun r18 s18 h18 => ?_)
    obtain ⟨rfl, rfl⟩ := h18
    refine g_iload_n (by decide +kernel : decode prog_10_method_45_code 21 = .ok (.iload_n 1, 1)) rfl ?_
    have J22 : G (ΛM, mt_Md_thoseAt, 1) X (mS σ f b) [some (.ref 0), some (.int (nI p)), some (.int (nI (atm f p k))), some (.int (nI k))] [.int (nI ((if tn (f (19 + 6 * k + 3)) = p then 1 else 0) * 2 ^ k)), .int (nI (atm f p k))] 32 := by
      refine g_ior (by decide +kernel : decode prog_10_method_45_code 32 = .ok (.ior, 1)) ?_
      refine g_top (w := nI (atm f p (k + 1))) (by rw [nI_or, or_add (atm_lt f p k) (ite1 _)]; rfl) ?_
      refine g_istore_n (L' := [some (.ref 0), some (.int (nI p)), some (.int (nI (atm f p (k + 1)))), some (.int (nI k))]) (by decide +kernel : decode prog_10_method_45_code 33 = .ok (.istore_n 2, 1)) (Nat.le_of_ble_eq_true rfl) rfl ?_
      refine g_iincN (n := 1) (L' := [some (.ref 0), some (.int (nI p)), some (.int (nI (atm f p (k + 1)))), some (.int (nI (k + 1)))]) (by decide +kernel : decode prog_10_method_45_code 34 = .ok (.iinc 3 1, 3)) rfl (by decide) (Nat.le_of_ble_eq_true rfl) rfl ?_
      refine g_goto (tgt := 4) (by decide +kernel : decode prog_10_method_45_code 37 = .ok (.goto (-33), 3)) (by decide) ?_
      exact ih (k + 1) (by omega) (by omega) hR
    refine g_icmp_neN (tgt := 31) (by decide +kernel : decode prog_10_method_45_code 22 = .ok (.if_icmp .ne 9, 3)) (by decide) (by first | omega | (have h9 : tn (f (19 + 6 * k + 3)) ≤ 11 := (hI.p (o := k) (by omega) 3).2; omega)) (by first | omega | (have h9 : tn (f (19 + 6 * k + 3)) ≤ 11 := (hI.p (o := k) (by omega) 3).2; omega)) (fun h22 => ?_) (fun h22 => ?_)
    · refine g_iconst (v := nI 0) (by decide +kernel : decode prog_10_method_45_code 31 = .ok (.iconst 0, 1)) (by decide) ?_
      exact g_top (by rw [if_neg h22, Nat.zero_mul]) J22
    · refine g_iconst (v := nI 1) (by decide +kernel : decode prog_10_method_45_code 25 = .ok (.iconst 1, 1)) (by decide) ?_
      refine g_iload_n (by decide +kernel : decode prog_10_method_45_code 26 = .ok (.iload_n 3, 1)) rfl ?_
      refine g_ishl (by decide +kernel : decode prog_10_method_45_code 27 = .ok (.ishl, 1)) ?_
      refine g_goto (tgt := 32) (by decide +kernel : decode prog_10_method_45_code 28 = .ok (.goto 4, 3)) (by decide) ?_
      exact g_top (by rw [if_pos h22]; exact nI_1shl (by omega)) J22
set_option maxRecDepth 20000 in
theorem m_thoseAt (σ : Store) (f b : Row) (hI : Inv f) (p : Nat) (hp : p < 12) : Ct ΛM mt_Md_thoseAt 1 [.ref 0, .int (nI p)] (mS σ f b) (PF (nI (atm f p (nn f))) (mS σ f b)) := by
  refine Ct.of (by decide) (Nat.le_of_ble_eq_true rfl) (fun X hR => ?_)
  show G (ΛM, mt_Md_thoseAt, 1) X (mS σ f b) [some (.ref 0), some (.int (nI p)), none, none] [] 0
  refine g_iconst (v := nI 0) (by decide +kernel : decode prog_10_method_45_code 0 = .ok (.iconst 0, 1)) (by decide) ?_
  refine g_istore_n (L' := [some (.ref 0), some (.int (nI p)), some (.int (nI 0)), none]) (by decide +kernel : decode prog_10_method_45_code 1 = .ok (.istore_n 2, 1)) (Nat.le_of_ble_eq_true rfl) rfl ?_
  refine g_iconst (v := nI 0) (by decide +kernel : decode prog_10_method_45_code 2 = .ok (.iconst 0, 1)) (by decide) ?_
  refine g_istore_n (L' := [some (.ref 0), some (.int (nI p)), some (.int (nI 0)), some (.int (nI 0))]) (by decide +kernel : decode prog_10_method_45_code 3 = .ok (.istore_n 3, 1)) (Nat.le_of_ble_eq_true rfl) rfl ?_
  exact m_thoseAt_lp hI hp (nn f + 1) 0 (Nat.zero_le _) (by omega) hR
