/-! THE PROGRAM: what is asked and told -/
theorem rg_iff {a b : Nat} (x : Int32) (ha : a < 2 ^ 31) (hb : b < 2 ^ 31) : (nI a ≤ x ∧ x ≤ nI b) ↔ ∃ j, a ≤ j ∧ j ≤ b ∧ x = nI j := by
  constructor
  · rintro ⟨h1, h2⟩
    rw [Int32.le_iff_toInt_le, nI_toInt ha] at h1
    rw [Int32.le_iff_toInt_le, nI_toInt hb] at h2
    refine ⟨x.toInt.toNat, by omega, by omega, ?_⟩
    apply Int32.toInt_inj.mp
    rw [nI_toInt (by omega)]; omega
  · rintro ⟨j, h1, h2, rfl⟩
    exact ⟨nI_le h1 (by omega), nI_le h2 hb⟩
set_option maxRecDepth 20000 in
theorem k_within0 (σ : Store) (x a b : Int32) : Ct ΛC mt_LS_within 0 [.int x, .int a, .int b] σ (PB σ (a ≤ x ∧ x ≤ b)) := by
  refine Ct.of (by decide) (Nat.le_of_ble_eq_true rfl) (fun X hR => ?_)
  show G (ΛC, mt_LS_within, 0) X σ [some (.int x), some (.int a), some (.int b)] [] 0
  refine g_iload_n (by decide +kernel : decode prog_1_method_2_code 0 = .ok (.iload_n 0, 1)) rfl ?_
  refine g_iload_n (by decide +kernel : decode prog_1_method_2_code 1 = .ok (.iload_n 1, 1)) rfl ?_
  refine g_icmp_lt (tgt := 14) (by decide +kernel : decode prog_1_method_2_code 2 = .ok (.if_icmp .lt 12, 3)) (by decide) (fun h2 => ?_) (fun h2 => ?_)
  · refine g_iconst (v := nI 0) (by decide +kernel : decode prog_1_method_2_code 14 = .ok (.iconst 0, 1)) (by decide) ?_
    exact g_zret hR (by decide +kernel : decode prog_1_method_2_code 15 = .ok (.ireturn, 1)) rfl (by decide) ⟨_, rfl, ⟨rfl, Or.inr ⟨rfl, by first | exact fun q => absurd q.2 (Int32.not_le.mpr h7) | exact fun q => absurd q.1 (Int32.not_le.mpr h2)⟩⟩⟩
  · refine g_iload_n (by decide +kernel : decode prog_1_method_2_code 5 = .ok (.iload_n 0, 1)) rfl ?_
    refine g_iload_n (by decide +kernel : decode prog_1_method_2_code 6 = .ok (.iload_n 2, 1)) rfl ?_
    refine g_icmp_gt (tgt := 14) (by decide +kernel : decode prog_1_method_2_code 7 = .ok (.if_icmp .gt 7, 3)) (by decide) (fun h7 => ?_) (fun h7 => ?_)
    · refine g_iconst (v := nI 0) (by decide +kernel : decode prog_1_method_2_code 14 = .ok (.iconst 0, 1)) (by decide) ?_
      exact g_zret hR (by decide +kernel : decode prog_1_method_2_code 15 = .ok (.ireturn, 1)) rfl (by decide) ⟨_, rfl, ⟨rfl, Or.inr ⟨rfl, by first | exact fun q => absurd q.2 (Int32.not_le.mpr h7) | exact fun q => absurd q.1 (Int32.not_le.mpr h2)⟩⟩⟩
    · refine g_iconst (v := nI 1) (by decide +kernel : decode prog_1_method_2_code 10 = .ok (.iconst 1, 1)) (by decide) ?_
      refine g_goto (tgt := 15) (by decide +kernel : decode prog_1_method_2_code 11 = .ok (.goto 4, 3)) (by decide) ?_
      exact g_zret hR (by decide +kernel : decode prog_1_method_2_code 15 = .ok (.ireturn, 1)) rfl (by decide) ⟨_, rfl, ⟨rfl, Or.inl ⟨rfl, ⟨Int32.not_lt.mp h2, Int32.not_lt.mp h7⟩⟩⟩⟩
theorem k_within (σ : Store) (x : Int32) (a b : Nat) (ha : a < 2 ^ 31 := by decide) (hb : b < 2 ^ 31 := by decide) : Ct ΛC mt_LS_within 0 [.int x, .int (nI a), .int (nI b)] σ (PB σ (∃ j, a ≤ j ∧ j ≤ b ∧ x = nI j)) := PB.of (k_within0 σ x (nI a) (nI b)) (rg_iff x ha hb)
set_option maxRecDepth 20000 in
theorem k_isKind (σ : Store) (x : Int32) : Ct ΛC mt_LS_isKind 1 [.int x] σ (PB σ (∃ j, 0 ≤ j ∧ j ≤ 5 ∧ x = nI j)) := by
  refine Ct.of (by decide) (Nat.le_of_ble_eq_true rfl) (fun X hR => ?_)
  show G (ΛC, mt_LS_isKind, 1) X σ [some (.int x)] [] 0
  refine g_iload_n (by decide +kernel : decode prog_1_method_3_code 0 = .ok (.iload_n 0, 1)) rfl ?_
  refine g_iconst (v := nI 0) (by decide +kernel : decode prog_1_method_3_code 1 = .ok (.iconst 0, 1)) (by decide) ?_
  refine g_iconst (v := nI 5) (by decide +kernel : decode prog_1_method_3_code 2 = .ok (.iconst 5, 1)) (by decide) ?_
  refine g_callSI [.int x, .int (nI 0), .int (nI 5)] (by decide +kernel : decode prog_1_method_3_code 3 = .ok (.invokestatic 62, 3)) lk_LS_62 (k_within _ x 0 5) rfl rfl (Nat.le_of_ble_eq_true rfl) (Nat.le_of_ble_eq_true rfl) (fun r3 s3 h3 => ?_)
  obtain ⟨e3, h3⟩ := h3
  have e3 := e3.symm; subst e3
  exact g_zret hR (by decide +kernel : decode prog_1_method_3_code 6 = .ok (.ireturn, 1)) rfl (by rcases h3 with ⟨z, _⟩ | ⟨z, _⟩ <;> rw [z] <;> decide) ⟨_, rfl, ⟨rfl, h3⟩⟩
set_option maxRecDepth 20000 in
theorem k_isPlace (σ : Store) (x : Int32) : Ct ΛC mt_LS_isPlace 1 [.int x] σ (PB σ (∃ j, 0 ≤ j ∧ j ≤ 11 ∧ x = nI j)) := by
  refine Ct.of (by decide) (Nat.le_of_ble_eq_true rfl) (fun X hR => ?_)
  show G (ΛC, mt_LS_isPlace, 1) X σ [some (.int x)] [] 0
  refine g_iload_n (by decide +kernel : decode prog_1_method_4_code 0 = .ok (.iload_n 0, 1)) rfl ?_
  refine g_iconst (v := nI 0) (by decide +kernel : decode prog_1_method_4_code 1 = .ok (.iconst 0, 1)) (by decide) ?_
  refine g_bipush (v := nI 11) (by decide +kernel : decode prog_1_method_4_code 2 = .ok (.bipush 11, 2)) (by decide) ?_
  refine g_callSI [.int x, .int (nI 0), .int (nI 11)] (by decide +kernel : decode prog_1_method_4_code 4 = .ok (.invokestatic 62, 3)) lk_LS_62 (k_within _ x 0 11) rfl rfl (Nat.le_of_ble_eq_true rfl) (Nat.le_of_ble_eq_true rfl) (fun r4 s4 h4 => ?_)
  obtain ⟨e4, h4⟩ := h4
  have e4 := e4.symm; subst e4
  exact g_zret hR (by decide +kernel : decode prog_1_method_4_code 7 = .ok (.ireturn, 1)) rfl (by rcases h4 with ⟨z, _⟩ | ⟨z, _⟩ <;> rw [z] <;> decide) ⟨_, rfl, ⟨rfl, h4⟩⟩
set_option maxRecDepth 20000 in
theorem k_isLaw (σ : Store) (x : Int32) : Ct ΛC mt_LS_isLaw 1 [.int x] σ (PB σ (∃ j, 0 ≤ j ∧ j ≤ 3 ∧ x = nI j)) := by
  refine Ct.of (by decide) (Nat.le_of_ble_eq_true rfl) (fun X hR => ?_)
  show G (ΛC, mt_LS_isLaw, 1) X σ [some (.int x)] [] 0
  refine g_iload_n (by decide +kernel : decode prog_1_method_5_code 0 = .ok (.iload_n 0, 1)) rfl ?_
  refine g_iconst (v := nI 0) (by decide +kernel : decode prog_1_method_5_code 1 = .ok (.iconst 0, 1)) (by decide) ?_
  refine g_iconst (v := nI 3) (by decide +kernel : decode prog_1_method_5_code 2 = .ok (.iconst 3, 1)) (by decide) ?_
  refine g_callSI [.int x, .int (nI 0), .int (nI 3)] (by decide +kernel : decode prog_1_method_5_code 3 = .ok (.invokestatic 62, 3)) lk_LS_62 (k_within _ x 0 3) rfl rfl (Nat.le_of_ble_eq_true rfl) (Nat.le_of_ble_eq_true rfl) (fun r3 s3 h3 => ?_)
  obtain ⟨e3, h3⟩ := h3
  have e3 := e3.symm; subst e3
  exact g_zret hR (by decide +kernel : decode prog_1_method_5_code 6 = .ok (.ireturn, 1)) rfl (by rcases h3 with ⟨z, _⟩ | ⟨z, _⟩ <;> rw [z] <;> decide) ⟨_, rfl, ⟨rfl, h3⟩⟩
set_option maxRecDepth 20000 in
theorem k_isSheet (σ : Store) (x : Int32) : Ct ΛC mt_LS_isSheet 1 [.int x] σ (PB σ (∃ j, 0 ≤ j ∧ j ≤ 3 ∧ x = nI j)) := by
  refine Ct.of (by decide) (Nat.le_of_ble_eq_true rfl) (fun X hR => ?_)
  show G (ΛC, mt_LS_isSheet, 1) X σ [some (.int x)] [] 0
  refine g_iload_n (by decide +kernel : decode prog_1_method_6_code 0 = .ok (.iload_n 0, 1)) rfl ?_
  refine g_iconst (v := nI 0) (by decide +kernel : decode prog_1_method_6_code 1 = .ok (.iconst 0, 1)) (by decide) ?_
  refine g_iconst (v := nI 3) (by decide +kernel : decode prog_1_method_6_code 2 = .ok (.iconst 3, 1)) (by decide) ?_
  refine g_callSI [.int x, .int (nI 0), .int (nI 3)] (by decide +kernel : decode prog_1_method_6_code 3 = .ok (.invokestatic 62, 3)) lk_LS_62 (k_within _ x 0 3) rfl rfl (Nat.le_of_ble_eq_true rfl) (Nat.le_of_ble_eq_true rfl) (fun r3 s3 h3 => ?_)
  obtain ⟨e3, h3⟩ := h3
  have e3 := e3.symm; subst e3
  exact g_zret hR (by decide +kernel : decode prog_1_method_6_code 6 = .ok (.ireturn, 1)) rfl (by rcases h3 with ⟨z, _⟩ | ⟨z, _⟩ <;> rw [z] <;> decide) ⟨_, rfl, ⟨rfl, h3⟩⟩
set_option maxRecDepth 20000 in
theorem k_isShelf (σ : Store) (x : Int32) : Ct ΛC mt_LS_isShelf 1 [.int x] σ (PB σ (∃ j, 0 ≤ j ∧ j ≤ 3 ∧ x = nI j)) := by
  refine Ct.of (by decide) (Nat.le_of_ble_eq_true rfl) (fun X hR => ?_)
  show G (ΛC, mt_LS_isShelf, 1) X σ [some (.int x)] [] 0
  refine g_iload_n (by decide +kernel : decode prog_1_method_7_code 0 = .ok (.iload_n 0, 1)) rfl ?_
  refine g_iconst (v := nI 0) (by decide +kernel : decode prog_1_method_7_code 1 = .ok (.iconst 0, 1)) (by decide) ?_
  refine g_iconst (v := nI 3) (by decide +kernel : decode prog_1_method_7_code 2 = .ok (.iconst 3, 1)) (by decide) ?_
  refine g_callSI [.int x, .int (nI 0), .int (nI 3)] (by decide +kernel : decode prog_1_method_7_code 3 = .ok (.invokestatic 62, 3)) lk_LS_62 (k_within _ x 0 3) rfl rfl (Nat.le_of_ble_eq_true rfl) (Nat.le_of_ble_eq_true rfl) (fun r3 s3 h3 => ?_)
  obtain ⟨e3, h3⟩ := h3
  have e3 := e3.symm; subst e3
  exact g_zret hR (by decide +kernel : decode prog_1_method_7_code 6 = .ok (.ireturn, 1)) rfl (by rcases h3 with ⟨z, _⟩ | ⟨z, _⟩ <;> rw [z] <;> decide) ⟨_, rfl, ⟨rfl, h3⟩⟩
theorem roV1 {i : Nat} (hi : i ≤ 3) : (roV 1).getD i 0 = nI (lm i) := by
  rcases (show i = 0 ∨ i = 1 ∨ i = 2 ∨ i = 3 by omega) with rfl | rfl | rfl | rfl <;> rfl
set_option maxRecDepth 20000 in
theorem k_set {σ τ : Store} {f : Row} (h : RX σ τ f) (x y : Int32) : Ct ΛC mt_LS_set 2 [.ref 0, .int x, .int y] σ (cP τ (setV f x y) (setT f x y)) := by
  refine Ct.of (by decide) (Nat.le_of_ble_eq_true rfl) (fun X hR => ?_)
  show G (ΛC, mt_LS_set, 2) X σ [some (.ref 0), some (.int x), some (.int y), none] [] 0
  have hn8 := h.n8
  refine g_iload_n (by decide +kernel : decode prog_1_method_10_code 0 = .ok (.iload_n 1, 1)) rfl ?_
  refine g_callSI [.int x] (by decide +kernel : decode prog_1_method_10_code 1 = .ok (.invokestatic 95, 3)) lk_LS_95 (k_isLaw _ x) rfl rfl (Nat.le_of_ble_eq_true rfl) (Nat.le_of_ble_eq_true rfl) (fun r1 s1 h1 => ?_)
  rcases h1 with ⟨e1, ⟨rfl, i, ha1, hb1, rfl⟩ | ⟨rfl, n1⟩⟩
  · have e1 := e1.symm; subst e1
    refine g_if_eqN (tgt := 20) (by decide +kernel : decode prog_1_method_10_code 4 = .ok (.ifCond .eq 16, 3)) (by decide) (by decide) (fun h => False.elim (by revert h; decide)) (fun _ => ?_)
    refine g_iload_n (by decide +kernel : decode prog_1_method_10_code 7 = .ok (.iload_n 2, 1)) rfl ?_
    refine g_iconst (v := nI 0) (by decide +kernel : decode prog_1_method_10_code 8 = .ok (.iconst 0, 1)) (by decide) ?_
    refine g_gets (j := 1) (by decide +kernel : decode prog_1_method_10_code 9 = .ok (.getstatic 99, 3)) (by decide) sl_LS_99 ?_
    refine g_iload_n (by decide +kernel : decode prog_1_method_10_code 12 = .ok (.iload_n 1, 1)) rfl ?_
    refine g_roload (j := 1) (a := i) (by decide +kernel : decode prog_1_method_10_code 13 = .ok (.iaload, 1)) (by decide) rfl (by show i < 4; omega) ?_
    refine g_top (w := nI (lm i)) (roV1 (by omega)) ?_
    refine g_callSI [.int y, .int (nI 0), .int (nI (lm i))] (by decide +kernel : decode prog_1_method_10_code 14 = .ok (.invokestatic 62, 3)) lk_LS_62 (k_within _ y 0 (lm i) (by decide) (by have := lm_lt i; omega)) rfl rfl (Nat.le_of_ble_eq_true rfl) (Nat.le_of_ble_eq_true rfl) (fun r14 s14 h14 => ?_)
    rcases h14 with ⟨e14, ⟨rfl, v, ha14, hb14, rfl⟩ | ⟨rfl, n14⟩⟩
    · have e14 := e14.symm; subst e14
      refine g_if_neN (tgt := 22) (by decide +kernel : decode prog_1_method_10_code 17 = .ok (.ifCond .ne 5, 3)) (by decide) (by decide) (fun _ => ?_) (fun h => False.elim (by revert h; decide))
      refine g_aload_n (by decide +kernel : decode prog_1_method_10_code 22 = .ok (.aload_n 0, 1)) rfl ?_
      refine g_getR (by decide +kernel : decode prog_1_method_10_code 23 = .ok (.getfield 20, 3)) fl_LS_20 rfl rfl ?_
      refine g_getR (by decide +kernel : decode prog_1_method_10_code 26 = .ok (.getfield 103, 3)) fl_LS_103 rfl rfl ?_
      refine g_iload_n (by decide +kernel : decode prog_1_method_10_code 29 = .ok (.iload_n 1, 1)) rfl ?_
      refine g_iaload (a := i) (by decide +kernel : decode prog_1_method_10_code 30 = .ok (.iaload, 1)) rfl rfl (by omega) (by decide) ?_
      refine g_top (w := f (3 + i)) (h.n.l (by omega)) ?_
      refine g_istore_n (L' := [some (.ref 0), some (.int (nI i)), some (.int (nI v)), some (.int (f (3 + i)))]) (by decide +kernel : decode prog_1_method_10_code 31 = .ok (.istore_n 3, 1)) (Nat.le_of_ble_eq_true rfl) rfl ?_
      refine g_aload_n (by decide +kernel : decode prog_1_method_10_code 32 = .ok (.aload_n 0, 1)) rfl ?_
      refine g_getR (by decide +kernel : decode prog_1_method_10_code 33 = .ok (.getfield 20, 3)) fl_LS_20 rfl rfl ?_
      refine g_getR (by decide +kernel : decode prog_1_method_10_code 36 = .ok (.getfield 103, 3)) fl_LS_103 rfl rfl ?_
      refine g_iload_n (by decide +kernel : decode prog_1_method_10_code 39 = .ok (.iload_n 1, 1)) rfl ?_
      refine g_iload_n (by decide +kernel : decode prog_1_method_10_code 40 = .ok (.iload_n 2, 1)) rfl ?_
      refine g_iastore (a := i) (by decide +kernel : decode prog_1_method_10_code 41 = .ok (.iastore, 1)) rfl rfl (by omega) (by decide) ?_
      have p42 := h.wl (i := i) (v := (nI v)) (by omega) (Rng.of hb14)
      refine g_iload_n (by decide +kernel : decode prog_1_method_10_code 42 = .ok (.iload_n 3, 1)) rfl ?_
      exact g_iret hR (by decide +kernel : decode prog_1_method_10_code 43 = .ok (.ireturn, 1)) rfl ⟨_, rfl, ⟨by first | (simp only [setV, rg_of ha1 hb1, rg_of ha14 hb14 (by have := lm_lt i; omega)]; done) | (simp only [setV, rg_of ha1 hb1, rg_of ha14 hb14 (by have := lm_lt i; omega)]; rfl), by simp only [setT, rg_of ha1 hb1, rg_of ha14 hb14 (by have := lm_lt i; omega)]; exact p42⟩⟩
    · have e14 := e14.symm; subst e14
      refine g_if_neN (tgt := 22) (by decide +kernel : decode prog_1_method_10_code 17 = .ok (.ifCond .ne 5, 3)) (by decide) (by decide) (fun h => False.elim (by revert h; decide)) (fun _ => ?_)
      refine g_iconst (v := (-1)) (by decide +kernel : decode prog_1_method_10_code 20 = .ok (.iconst (-1), 1)) (by decide) ?_
      exact g_iret hR (by decide +kernel : decode prog_1_method_10_code 21 = .ok (.ireturn, 1)) rfl ⟨_, rfl, ⟨by first | (simp only [setV, rg_of ha1 hb1, rg_none n14 (by have := lm_lt i; omega) (Nat.zero_le _)]; done) | (simp only [setV, rg_of ha1 hb1, rg_none n14 (by have := lm_lt i; omega) (Nat.zero_le _)]; rfl), by simp only [setT, rg_of ha1 hb1, rg_none n14 (by have := lm_lt i; omega) (Nat.zero_le _)]; exact h⟩⟩
  · have e1 := e1.symm; subst e1
    refine g_if_eqN (tgt := 20) (by decide +kernel : decode prog_1_method_10_code 4 = .ok (.ifCond .eq 16, 3)) (by decide) (by decide) (fun _ => ?_) (fun h => False.elim (by revert h; decide))
    refine g_iconst (v := (-1)) (by decide +kernel : decode prog_1_method_10_code 20 = .ok (.iconst (-1), 1)) (by decide) ?_
    exact g_iret hR (by decide +kernel : decode prog_1_method_10_code 21 = .ok (.ireturn, 1)) rfl ⟨_, rfl, ⟨by first | (simp only [setV, rg_none n1]; done) | (simp only [setV, rg_none n1]; rfl), by simp only [setT, rg_none n1]; exact h⟩⟩
set_option maxRecDepth 20000 in
theorem k_lawOf {σ τ : Store} {f : Row} (h : RX σ τ f) (x : Int32) : Ct ΛC mt_LS_lawOf 2 [.ref 0, .int x] σ (cP τ (lawV f x) f) := by
  refine Ct.of (by decide) (Nat.le_of_ble_eq_true rfl) (fun X hR => ?_)
  show G (ΛC, mt_LS_lawOf, 2) X σ [some (.ref 0), some (.int x)] [] 0
  have hn8 := h.n8
  refine g_iload_n (by decide +kernel : decode prog_1_method_11_code 0 = .ok (.iload_n 1, 1)) rfl ?_
  refine g_callSI [.int x] (by decide +kernel : decode prog_1_method_11_code 1 = .ok (.invokestatic 95, 3)) lk_LS_95 (k_isLaw _ x) rfl rfl (Nat.le_of_ble_eq_true rfl) (Nat.le_of_ble_eq_true rfl) (fun r1 s1 h1 => ?_)
  rcases h1 with ⟨e1, ⟨rfl, i, ha1, hb1, rfl⟩ | ⟨rfl, n1⟩⟩
  · have e1 := e1.symm; subst e1
    refine g_if_eqN (tgt := 19) (by decide +kernel : decode prog_1_method_11_code 4 = .ok (.ifCond .eq 15, 3)) (by decide) (by decide) (fun h => False.elim (by revert h; decide)) (fun _ => ?_)
    refine g_aload_n (by decide +kernel : decode prog_1_method_11_code 7 = .ok (.aload_n 0, 1)) rfl ?_
    refine g_getR (by decide +kernel : decode prog_1_method_11_code 8 = .ok (.getfield 20, 3)) fl_LS_20 rfl rfl ?_
    refine g_getR (by decide +kernel : decode prog_1_method_11_code 11 = .ok (.getfield 103, 3)) fl_LS_103 rfl rfl ?_
    refine g_iload_n (by decide +kernel : decode prog_1_method_11_code 14 = .ok (.iload_n 1, 1)) rfl ?_
    refine g_iaload (a := i) (by decide +kernel : decode prog_1_method_11_code 15 = .ok (.iaload, 1)) rfl rfl (by omega) (by decide) ?_
    refine g_top (w := f (3 + i)) (h.n.l (by omega)) ?_
    refine g_goto (tgt := 20) (by decide +kernel : decode prog_1_method_11_code 16 = .ok (.goto 4, 3)) (by decide) ?_
    exact g_iret hR (by decide +kernel : decode prog_1_method_11_code 20 = .ok (.ireturn, 1)) rfl ⟨_, rfl, ⟨by first | (simp only [lawV, rg_of ha1 hb1]; done) | (simp only [lawV, rg_of ha1 hb1]; rfl), h⟩⟩
  · have e1 := e1.symm; subst e1
    refine g_if_eqN (tgt := 19) (by decide +kernel : decode prog_1_method_11_code 4 = .ok (.ifCond .eq 15, 3)) (by decide) (by decide) (fun _ => ?_) (fun h => False.elim (by revert h; decide))
    refine g_iconst (v := (-1)) (by decide +kernel : decode prog_1_method_11_code 19 = .ok (.iconst (-1), 1)) (by decide) ?_
    exact g_iret hR (by decide +kernel : decode prog_1_method_11_code 20 = .ok (.ireturn, 1)) rfl ⟨_, rfl, ⟨by first | (simp only [lawV, rg_none n1]; done) | (simp only [lawV, rg_none n1]; rfl), h⟩⟩
theorem adm_nn1 {f : Row} {k a w p h : Nat} (hn : nn f < 8) : nI (nn (adm f k a w p h)) - nI 1 = nI (nn f) := by
  rw [adm_nn hn, pk_sub (by omega)]; rfl
set_option maxRecDepth 20000 in
theorem k_person {σ τ : Store} {f : Row} (h : RX σ τ f) (x y z u v : Int32) : Ct ΛC mt_LS_person 2 [.ref 0, .int x, .int y, .int z, .int u, .int v] σ (cP τ (personV f x y z u v) (personT f x y z u v)) := by
  refine Ct.of (by decide) (Nat.le_of_ble_eq_true rfl) (fun X hR => ?_)
  show G (ΛC, mt_LS_person, 2) X σ [some (.ref 0), some (.int x), some (.int y), some (.int z), some (.int u), some (.int v), none] [] 0
  have hn8 := h.n8
  refine g_iload_n (by decide +kernel : decode prog_1_method_12_code 0 = .ok (.iload_n 1, 1)) rfl ?_
  refine g_callSI [.int x] (by decide +kernel : decode prog_1_method_12_code 1 = .ok (.invokestatic 106, 3)) lk_LS_106 (k_isKind _ x) rfl rfl (Nat.le_of_ble_eq_true rfl) (Nat.le_of_ble_eq_true rfl) (fun r1 s1 h1 => ?_)
  rcases h1 with ⟨e1, ⟨rfl, k, ha1, hb1, rfl⟩ | ⟨rfl, n1⟩⟩
  · have e1 := e1.symm; subst e1
    refine g_if_eqN (tgt := 49) (by decide +kernel : decode prog_1_method_12_code 4 = .ok (.ifCond .eq 45, 3)) (by decide) (by decide) (fun h => False.elim (by revert h; decide)) (fun _ => ?_)
    refine g_iload_n (by decide +kernel : decode prog_1_method_12_code 7 = .ok (.iload_n 2, 1)) rfl ?_
    refine g_iconst (v := nI 0) (by decide +kernel : decode prog_1_method_12_code 8 = .ok (.iconst 0, 1)) (by decide) ?_
    refine g_bipush (v := nI 99) (by decide +kernel : decode prog_1_method_12_code 9 = .ok (.bipush 99, 2)) (by decide) ?_
    refine g_callSI [.int y, .int (nI 0), .int (nI 99)] (by decide +kernel : decode prog_1_method_12_code 11 = .ok (.invokestatic 62, 3)) lk_LS_62 (k_within _ y 0 99) rfl rfl (Nat.le_of_ble_eq_true rfl) (Nat.le_of_ble_eq_true rfl) (fun r11 s11 h11 => ?_)
    rcases h11 with ⟨e11, ⟨rfl, a, ha11, hb11, rfl⟩ | ⟨rfl, n11⟩⟩
    · have e11 := e11.symm; subst e11
      refine g_if_eqN (tgt := 49) (by decide +kernel : decode prog_1_method_12_code 14 = .ok (.ifCond .eq 35, 3)) (by decide) (by decide) (fun h => False.elim (by revert h; decide)) (fun _ => ?_)
      refine g_iload_n (by decide +kernel : decode prog_1_method_12_code 17 = .ok (.iload_n 3, 1)) rfl ?_
      refine g_iconst (v := nI 0) (by decide +kernel : decode prog_1_method_12_code 18 = .ok (.iconst 0, 1)) (by decide) ?_
      refine g_bipush (v := nI 9) (by decide +kernel : decode prog_1_method_12_code 19 = .ok (.bipush 9, 2)) (by decide) ?_
      refine g_callSI [.int z, .int (nI 0), .int (nI 9)] (by decide +kernel : decode prog_1_method_12_code 21 = .ok (.invokestatic 62, 3)) lk_LS_62 (k_within _ z 0 9) rfl rfl (Nat.le_of_ble_eq_true rfl) (Nat.le_of_ble_eq_true rfl) (fun r21 s21 h21 => ?_)
      rcases h21 with ⟨e21, ⟨rfl, w, ha21, hb21, rfl⟩ | ⟨rfl, n21⟩⟩
      · have e21 := e21.symm; subst e21
        refine g_if_eqN (tgt := 49) (by decide +kernel : decode prog_1_method_12_code 24 = .ok (.ifCond .eq 25, 3)) (by decide) (by decide) (fun h => False.elim (by revert h; decide)) (fun _ => ?_)
        refine g_iload (by decide +kernel : decode prog_1_method_12_code 27 = .ok (.iload 4, 2)) rfl ?_
        refine g_callSI [.int u] (by decide +kernel : decode prog_1_method_12_code 29 = .ok (.invokestatic 109, 3)) lk_LS_109 (k_isPlace _ u) rfl rfl (Nat.le_of_ble_eq_true rfl) (Nat.le_of_ble_eq_true rfl) (fun r29 s29 h29 => ?_)
        rcases h29 with ⟨e29, ⟨rfl, p, ha29, hb29, rfl⟩ | ⟨rfl, n29⟩⟩
        · have e29 := e29.symm; subst e29
          refine g_if_eqN (tgt := 49) (by decide +kernel : decode prog_1_method_12_code 32 = .ok (.ifCond .eq 17, 3)) (by decide) (by decide) (fun h => False.elim (by revert h; decide)) (fun _ => ?_)
          refine g_iload (by decide +kernel : decode prog_1_method_12_code 35 = .ok (.iload 5, 2)) rfl ?_
          refine g_iconst (v := nI 0) (by decide +kernel : decode prog_1_method_12_code 37 = .ok (.iconst 0, 1)) (by decide) ?_
          refine g_iconst (v := nI 1) (by decide +kernel : decode prog_1_method_12_code 38 = .ok (.iconst 1, 1)) (by decide) ?_
          refine g_callSI [.int v, .int (nI 0), .int (nI 1)] (by decide +kernel : decode prog_1_method_12_code 39 = .ok (.invokestatic 62, 3)) lk_LS_62 (k_within _ v 0 1) rfl rfl (Nat.le_of_ble_eq_true rfl) (Nat.le_of_ble_eq_true rfl) (fun r39 s39 h39 => ?_)
          rcases h39 with ⟨e39, ⟨rfl, s, ha39, hb39, rfl⟩ | ⟨rfl, n39⟩⟩
          · have e39 := e39.symm; subst e39
            refine g_if_eqN (tgt := 49) (by decide +kernel : decode prog_1_method_12_code 42 = .ok (.ifCond .eq 7, 3)) (by decide) (by decide) (fun h => False.elim (by revert h; decide)) (fun _ => ?_)
            refine g_iconst (v := nI 1) (by decide +kernel : decode prog_1_method_12_code 45 = .ok (.iconst 1, 1)) (by decide) ?_
            refine g_goto (tgt := 50) (by decide +kernel : decode prog_1_method_12_code 46 = .ok (.goto 4, 3)) (by decide) ?_
            refine g_istore (L' := [some (.ref 0), some (.int (nI k)), some (.int (nI a)), some (.int (nI w)), some (.int (nI p)), some (.int (nI s)), some (.int (nI 1))]) (by decide +kernel : decode prog_1_method_12_code 50 = .ok (.istore 6, 2)) (Nat.le_of_ble_eq_true rfl) rfl ?_
            refine g_iload (by decide +kernel : decode prog_1_method_12_code 52 = .ok (.iload 6, 2)) rfl ?_
            refine g_if_neN (tgt := 59) (by decide +kernel : decode prog_1_method_12_code 54 = .ok (.ifCond .ne 5, 3)) (by decide) (by decide) (fun _ => ?_) (fun h => False.elim (by revert h; decide))
            refine g_aload_n (by decide +kernel : decode prog_1_method_12_code 59 = .ok (.aload_n 0, 1)) rfl ?_
            refine g_getR (by decide +kernel : decode prog_1_method_12_code 60 = .ok (.getfield 20, 3)) fl_LS_20 rfl rfl ?_
            refine g_getI (by decide +kernel : decode prog_1_method_12_code 63 = .ok (.getfield 92, 3)) fl_LS_92.get rfl rfl ?_
            refine g_top (w := nI (nn f)) (h.n.n) ?_
            refine g_bipush (v := nI 8) (by decide +kernel : decode prog_1_method_12_code 66 = .ok (.bipush 8, 2)) (by decide) ?_
            refine g_icmp_ltN (tgt := 74) (by decide +kernel : decode prog_1_method_12_code 68 = .ok (.if_icmp .lt 6, 3)) (by decide) (by omega) (by decide) (fun h68 => ?_) (fun h68 => ?_)
            · refine g_aload_n (by decide +kernel : decode prog_1_method_12_code 74 = .ok (.aload_n 0, 1)) rfl ?_
              refine g_getR (by decide +kernel : decode prog_1_method_12_code 75 = .ok (.getfield 20, 3)) fl_LS_20 rfl rfl ?_
              refine g_iload_n (by decide +kernel : decode prog_1_method_12_code 78 = .ok (.iload_n 1, 1)) rfl ?_
              refine g_iload_n (by decide +kernel : decode prog_1_method_12_code 79 = .ok (.iload_n 2, 1)) rfl ?_
              refine g_iload_n (by decide +kernel : decode prog_1_method_12_code 80 = .ok (.iload_n 3, 1)) rfl ?_
              refine g_iload (by decide +kernel : decode prog_1_method_12_code 81 = .ok (.iload 4, 2)) rfl ?_
              refine g_iload (by decide +kernel : decode prog_1_method_12_code 83 = .ok (.iload 5, 2)) rfl ?_
              refine g_iconst (v := nI 1) (by decide +kernel : decode prog_1_method_12_code 85 = .ok (.iconst 1, 1)) (by decide) ?_
              refine g_icmp_neN (tgt := 93) (by decide +kernel : decode prog_1_method_12_code 86 = .ok (.if_icmp .ne 7, 3)) (by decide) (by omega) (by decide) (fun h86 => ?_) (fun h86 => ?_)
              · refine g_iconst (v := nI 0) (by decide +kernel : decode prog_1_method_12_code 93 = .ok (.iconst 0, 1)) (by decide) ?_
                refine g_callVV [.int (nI k), .int (nI a), .int (nI w), .int (nI p), .int (nI 0)] (by decide +kernel : decode prog_1_method_12_code 94 = .ok (.invokevirtual 112, 3)) lk_LS_112 (n_adm0 h (k := k) (a := a) (w := w) (p := p) (by omega) (by omega) (by omega) (by omega) (by omega)) rfl rfl rfl rfl (Nat.le_of_ble_eq_true rfl) (Nat.le_of_ble_eq_true rfl) (fun s94 h94 => ?_)
                have g94 := h94
                refine g_aload_n (by decide +kernel : decode prog_1_method_12_code 97 = .ok (.aload_n 0, 1)) rfl ?_
                refine g_getR (by decide +kernel : decode prog_1_method_12_code 98 = .ok (.getfield 20, 3)) fl_LS_20 rfl rfl ?_
                refine g_getI (by decide +kernel : decode prog_1_method_12_code 101 = .ok (.getfield 92, 3)) fl_LS_92.get rfl rfl ?_
                refine g_top (w := nI (nn (adm f k a w p 1))) (g94.n.n) ?_
                refine g_iconst (v := nI 1) (by decide +kernel : decode prog_1_method_12_code 104 = .ok (.iconst 1, 1)) (by decide) ?_
                refine g_isub (by decide +kernel : decode prog_1_method_12_code 105 = .ok (.isub, 1)) ?_
                exact g_iret hR (by decide +kernel : decode prog_1_method_12_code 106 = .ok (.ireturn, 1)) rfl ⟨_, rfl, ⟨by simp only [personV, rg_of ha1 hb1, rg_of ha11 hb11, rg_of ha21 hb21, rg_of ha29 hb29, rg_of ha39 hb39]; rw [if_neg (by omega)]; exact adm_nn1 (by omega), by simp only [personT, rg_of ha1 hb1, rg_of ha11 hb11, rg_of ha21 hb21, rg_of ha29 hb29, rg_of ha39 hb39]; rw [if_neg (by omega)]; rw [show 1 - s = 1 by omega]; exact g94⟩⟩
              · refine g_iconst (v := nI 1) (by decide +kernel : decode prog_1_method_12_code 89 = .ok (.iconst 1, 1)) (by decide) ?_
                refine g_goto (tgt := 94) (by decide +kernel : decode prog_1_method_12_code 90 = .ok (.goto 4, 3)) (by decide) ?_
                refine g_callVV [.int (nI k), .int (nI a), .int (nI w), .int (nI p), .int (nI 1)] (by decide +kernel : decode prog_1_method_12_code 94 = .ok (.invokevirtual 112, 3)) lk_LS_112 (n_adm1 h (k := k) (a := a) (w := w) (p := p) (by omega) (by omega) (by omega) (by omega) (by omega)) rfl rfl rfl rfl (Nat.le_of_ble_eq_true rfl) (Nat.le_of_ble_eq_true rfl) (fun s94 h94 => ?_)
                have g94 := h94
                refine g_aload_n (by decide +kernel : decode prog_1_method_12_code 97 = .ok (.aload_n 0, 1)) rfl ?_
                refine g_getR (by decide +kernel : decode prog_1_method_12_code 98 = .ok (.getfield 20, 3)) fl_LS_20 rfl rfl ?_
                refine g_getI (by decide +kernel : decode prog_1_method_12_code 101 = .ok (.getfield 92, 3)) fl_LS_92.get rfl rfl ?_
                refine g_top (w := nI (nn (adm f k a w p 0))) (g94.n.n) ?_
                refine g_iconst (v := nI 1) (by decide +kernel : decode prog_1_method_12_code 104 = .ok (.iconst 1, 1)) (by decide) ?_
                refine g_isub (by decide +kernel : decode prog_1_method_12_code 105 = .ok (.isub, 1)) ?_
                exact g_iret hR (by decide +kernel : decode prog_1_method_12_code 106 = .ok (.ireturn, 1)) rfl ⟨_, rfl, ⟨by simp only [personV, rg_of ha1 hb1, rg_of ha11 hb11, rg_of ha21 hb21, rg_of ha29 hb29, rg_of ha39 hb39]; rw [if_neg (by omega)]; exact adm_nn1 (by omega), by simp only [personT, rg_of ha1 hb1, rg_of ha11 hb11, rg_of ha21 hb21, rg_of ha29 hb29, rg_of ha39 hb39]; rw [if_neg (by omega)]; rw [show 1 - s = 0 by omega]; exact g94⟩⟩
            · refine g_bipush (v := (-2)) (by decide +kernel : decode prog_1_method_12_code 71 = .ok (.bipush (-2), 2)) (by decide) ?_
              exact g_iret hR (by decide +kernel : decode prog_1_method_12_code 73 = .ok (.ireturn, 1)) rfl ⟨_, rfl, ⟨by simp only [personV, rg_of ha1 hb1, rg_of ha11 hb11, rg_of ha21 hb21, rg_of ha29 hb29, rg_of ha39 hb39]; rw [if_pos (by omega)], by simp only [personT, rg_of ha1 hb1, rg_of ha11 hb11, rg_of ha21 hb21, rg_of ha29 hb29, rg_of ha39 hb39]; rw [if_pos (by omega)]; exact h⟩⟩
          · have e39 := e39.symm; subst e39
            refine g_if_eqN (tgt := 49) (by decide +kernel : decode prog_1_method_12_code 42 = .ok (.ifCond .eq 7, 3)) (by decide) (by decide) (fun _ => ?_) (fun h => False.elim (by revert h; decide))
            refine g_iconst (v := nI 0) (by decide +kernel : decode prog_1_method_12_code 49 = .ok (.iconst 0, 1)) (by decide) ?_
            refine g_istore (L' := [some (.ref 0), some (.int (nI k)), some (.int (nI a)), some (.int (nI w)), some (.int (nI p)), some (.int v), some (.int (nI 0))]) (by decide +kernel : decode prog_1_method_12_code 50 = .ok (.istore 6, 2)) (Nat.le_of_ble_eq_true rfl) rfl ?_
            refine g_iload (by decide +kernel : decode prog_1_method_12_code 52 = .ok (.iload 6, 2)) rfl ?_
            refine g_if_neN (tgt := 59) (by decide +kernel : decode prog_1_method_12_code 54 = .ok (.ifCond .ne 5, 3)) (by decide) (by decide) (fun h => False.elim (by revert h; decide)) (fun _ => ?_)
            refine g_iconst (v := (-1)) (by decide +kernel : decode prog_1_method_12_code 57 = .ok (.iconst (-1), 1)) (by decide) ?_
            exact g_iret hR (by decide +kernel : decode prog_1_method_12_code 58 = .ok (.ireturn, 1)) rfl ⟨_, rfl, ⟨by first | (simp only [personV, rg_of ha1 hb1, rg_of ha11 hb11, rg_of ha21 hb21, rg_of ha29 hb29, rg_none n39]; done) | (simp only [personV, rg_of ha1 hb1, rg_of ha11 hb11, rg_of ha21 hb21, rg_of ha29 hb29, rg_none n39]; rfl), by simp only [personT, rg_of ha1 hb1, rg_of ha11 hb11, rg_of ha21 hb21, rg_of ha29 hb29, rg_none n39]; exact h⟩⟩
        · have e29 := e29.symm; subst e29
          refine g_if_eqN (tgt := 49) (by decide +kernel : decode prog_1_method_12_code 32 = .ok (.ifCond .eq 17, 3)) (by decide) (by decide) (fun _ => ?_) (fun h => False.elim (by revert h; decide))
          refine g_iconst (v := nI 0) (by decide +kernel : decode prog_1_method_12_code 49 = .ok (.iconst 0, 1)) (by decide) ?_
          refine g_istore (L' := [some (.ref 0), some (.int (nI k)), some (.int (nI a)), some (.int (nI w)), some (.int u), some (.int v), some (.int (nI 0))]) (by decide +kernel : decode prog_1_method_12_code 50 = .ok (.istore 6, 2)) (Nat.le_of_ble_eq_true rfl) rfl ?_
          refine g_iload (by decide +kernel : decode prog_1_method_12_code 52 = .ok (.iload 6, 2)) rfl ?_
          refine g_if_neN (tgt := 59) (by decide +kernel : decode prog_1_method_12_code 54 = .ok (.ifCond .ne 5, 3)) (by decide) (by decide) (fun h => False.elim (by revert h; decide)) (fun _ => ?_)
          refine g_iconst (v := (-1)) (by decide +kernel : decode prog_1_method_12_code 57 = .ok (.iconst (-1), 1)) (by decide) ?_
          exact g_iret hR (by decide +kernel : decode prog_1_method_12_code 58 = .ok (.ireturn, 1)) rfl ⟨_, rfl, ⟨by first | (simp only [personV, rg_of ha1 hb1, rg_of ha11 hb11, rg_of ha21 hb21, rg_none n29]; done) | (simp only [personV, rg_of ha1 hb1, rg_of ha11 hb11, rg_of ha21 hb21, rg_none n29]; rfl), by simp only [personT, rg_of ha1 hb1, rg_of ha11 hb11, rg_of ha21 hb21, rg_none n29]; exact h⟩⟩
      · have e21 := e21.symm; subst e21
        refine g_if_eqN (tgt := 49) (by decide +kernel : decode prog_1_method_12_code 24 = .ok (.ifCond .eq 25, 3)) (by decide) (by decide) (fun _ => ?_) (fun h => False.elim (by revert h; decide))
        refine g_iconst (v := nI 0) (by decide +kernel : decode prog_1_method_12_code 49 = .ok (.iconst 0, 1)) (by decide) ?_
        refine g_istore (L' := [some (.ref 0), some (.int (nI k)), some (.int (nI a)), some (.int z), some (.int u), some (.int v), some (.int (nI 0))]) (by decide +kernel : decode prog_1_method_12_code 50 = .ok (.istore 6, 2)) (Nat.le_of_ble_eq_true rfl) rfl ?_
        refine g_iload (by decide +kernel : decode prog_1_method_12_code 52 = .ok (.iload 6, 2)) rfl ?_
        refine g_if_neN (tgt := 59) (by decide +kernel : decode prog_1_method_12_code 54 = .ok (.ifCond .ne 5, 3)) (by decide) (by decide) (fun h => False.elim (by revert h; decide)) (fun _ => ?_)
        refine g_iconst (v := (-1)) (by decide +kernel : decode prog_1_method_12_code 57 = .ok (.iconst (-1), 1)) (by decide) ?_
        exact g_iret hR (by decide +kernel : decode prog_1_method_12_code 58 = .ok (.ireturn, 1)) rfl ⟨_, rfl, ⟨by first | (simp only [personV, rg_of ha1 hb1, rg_of ha11 hb11, rg_none n21]; done) | (simp only [personV, rg_of ha1 hb1, rg_of ha11 hb11, rg_none n21]; rfl), by simp only [personT, rg_of ha1 hb1, rg_of ha11 hb11, rg_none n21]; exact h⟩⟩
    · have e11 := e11.symm; subst e11
      refine g_if_eqN (tgt := 49) (by decide +kernel : decode prog_1_method_12_code 14 = .ok (.ifCond .eq 35, 3)) (by decide) (by decide) (fun _ => ?_) (fun h => False.elim (by revert h; decide))
      refine g_iconst (v := nI 0) (by decide +kernel : decode prog_1_method_12_code 49 = .ok (.iconst 0, 1)) (by decide) ?_
      refine g_istore (L' := [some (.ref 0), some (.int (nI k)), some (.int y), some (.int z), some (.int u), some (.int v), some (.int (nI 0))]) (by decide +kernel : decode prog_1_method_12_code 50 = .ok (.istore 6, 2)) (Nat.le_of_ble_eq_true rfl) rfl ?_
      refine g_iload (by decide +kernel : decode prog_1_method_12_code 52 = .ok (.iload 6, 2)) rfl ?_
      refine g_if_neN (tgt := 59) (by decide +kernel : decode prog_1_method_12_code 54 = .ok (.ifCond .ne 5, 3)) (by decide) (by decide) (fun h => False.elim (by revert h; decide)) (fun _ => ?_)
      refine g_iconst (v := (-1)) (by decide +kernel : decode prog_1_method_12_code 57 = .ok (.iconst (-1), 1)) (by decide) ?_
      exact g_iret hR (by decide +kernel : decode prog_1_method_12_code 58 = .ok (.ireturn, 1)) rfl ⟨_, rfl, ⟨by first | (simp only [personV, rg_of ha1 hb1, rg_none n11]; done) | (simp only [personV, rg_of ha1 hb1, rg_none n11]; rfl), by simp only [personT, rg_of ha1 hb1, rg_none n11]; exact h⟩⟩
  · have e1 := e1.symm; subst e1
    refine g_if_eqN (tgt := 49) (by decide +kernel : decode prog_1_method_12_code 4 = .ok (.ifCond .eq 45, 3)) (by decide) (by decide) (fun _ => ?_) (fun h => False.elim (by revert h; decide))
    refine g_iconst (v := nI 0) (by decide +kernel : decode prog_1_method_12_code 49 = .ok (.iconst 0, 1)) (by decide) ?_
    refine g_istore (L' := [some (.ref 0), some (.int x), some (.int y), some (.int z), some (.int u), some (.int v), some (.int (nI 0))]) (by decide +kernel : decode prog_1_method_12_code 50 = .ok (.istore 6, 2)) (Nat.le_of_ble_eq_true rfl) rfl ?_
    refine g_iload (by decide +kernel : decode prog_1_method_12_code 52 = .ok (.iload 6, 2)) rfl ?_
    refine g_if_neN (tgt := 59) (by decide +kernel : decode prog_1_method_12_code 54 = .ok (.ifCond .ne 5, 3)) (by decide) (by decide) (fun h => False.elim (by revert h; decide)) (fun _ => ?_)
    refine g_iconst (v := (-1)) (by decide +kernel : decode prog_1_method_12_code 57 = .ok (.iconst (-1), 1)) (by decide) ?_
    exact g_iret hR (by decide +kernel : decode prog_1_method_12_code 58 = .ok (.ireturn, 1)) rfl ⟨_, rfl, ⟨by first | (simp only [personV, rg_none n1]; done) | (simp only [personV, rg_none n1]; rfl), by simp only [personT, rg_none n1]; exact h⟩⟩
set_option maxRecDepth 20000 in
theorem k_of {σ τ : Store} {f : Row} (h : RX σ τ f) (x y : Int32) : Ct ΛC mt_LS_of 1 [.ref 0, .int x, .int y] σ (cP τ (ofV f x y) f) := by
  refine Ct.of (by decide) (Nat.le_of_ble_eq_true rfl) (fun X hR => ?_)
  show G (ΛC, mt_LS_of, 1) X σ [some (.ref 0), some (.int x), some (.int y)] [] 0
  have hn8 := h.n8
  refine g_aload_n (by decide +kernel : decode prog_1_method_13_code 0 = .ok (.aload_n 0, 1)) rfl ?_
  refine g_getR (by decide +kernel : decode prog_1_method_13_code 1 = .ok (.getfield 20, 3)) fl_LS_20 rfl rfl ?_
  refine g_iload_n (by decide +kernel : decode prog_1_method_13_code 4 = .ok (.iload_n 1, 1)) rfl ?_
  refine g_callVI [.int x] (by decide +kernel : decode prog_1_method_13_code 5 = .ok (.invokevirtual 116, 3)) lk_LS_116 (n_has h.n x) rfl rfl rfl rfl (Nat.le_of_ble_eq_true rfl) (Nat.le_of_ble_eq_true rfl) (fun r5 s5 h5 => ?_)
  rcases h5 with ⟨e5, ⟨rfl, o, ho5, rfl⟩ | ⟨rfl, n5⟩⟩
  · have e5 := e5.symm; subst e5
    refine g_if_neN (tgt := 13) (by decide +kernel : decode prog_1_method_13_code 8 = .ok (.ifCond .ne 5, 3)) (by decide) (by decide) (fun _ => ?_) (fun h => False.elim (by revert h; decide))
    refine g_iload_n (by decide +kernel : decode prog_1_method_13_code 13 = .ok (.iload_n 2, 1)) rfl ?_
    rcases sw_in y 6 (by decide) with ⟨j, hj, rfl⟩ | ⟨ho, hno⟩
    · rcases (show j = 0 ∨ j = 1 ∨ j = 2 ∨ j = 3 ∨ j = 4 ∨ j = 5 by omega) with rfl | rfl | rfl | rfl | rfl | rfl
      · refine g_tableIn (x := nI 0) (off := 38) (tgt := 52) (by decide +kernel : decode prog_1_method_13_code 14 = .ok (.tableswitch 105 0 5 #[38, 48, 58, 68, 78, 95], 38)) (by decide) (by decide) rfl (by decide) ?_
        refine g_aload_n (by decide +kernel : decode prog_1_method_13_code 52 = .ok (.aload_n 0, 1)) rfl ?_
        refine g_getR (by decide +kernel : decode prog_1_method_13_code 53 = .ok (.getfield 20, 3)) fl_LS_20 rfl rfl ?_
        refine g_getR (by decide +kernel : decode prog_1_method_13_code 56 = .ok (.getfield 119, 3)) fl_LS_119 rfl rfl ?_
        refine g_iload_n (by decide +kernel : decode prog_1_method_13_code 59 = .ok (.iload_n 1, 1)) rfl ?_
        refine g_iaload (a := o) (by decide +kernel : decode prog_1_method_13_code 60 = .ok (.iaload, 1)) rfl rfl (by omega) (by decide) ?_
        refine g_top (w := f (19 + 6 * o + 0)) (h.n.p0 (by omega)) ?_
        exact g_iret hR (by decide +kernel : decode prog_1_method_13_code 61 = .ok (.ireturn, 1)) rfl ⟨_, rfl, ⟨by first | (simp only [ofV, pz_of h.i ho5, rg_yes 5 0]; done) | (simp only [ofV, pz_of h.i ho5, rg_yes 5 0]; rfl), h⟩⟩
      · refine g_tableIn (x := nI 1) (off := 48) (tgt := 62) (by decide +kernel : decode prog_1_method_13_code 14 = .ok (.tableswitch 105 0 5 #[38, 48, 58, 68, 78, 95], 38)) (by decide) (by decide) rfl (by decide) ?_
        refine g_aload_n (by decide +kernel : decode prog_1_method_13_code 62 = .ok (.aload_n 0, 1)) rfl ?_
        refine g_getR (by decide +kernel : decode prog_1_method_13_code 63 = .ok (.getfield 20, 3)) fl_LS_20 rfl rfl ?_
        refine g_getR (by decide +kernel : decode prog_1_method_13_code 66 = .ok (.getfield 122, 3)) fl_LS_122 rfl rfl ?_
        refine g_iload_n (by decide +kernel : decode prog_1_method_13_code 69 = .ok (.iload_n 1, 1)) rfl ?_
        refine g_iaload (a := o) (by decide +kernel : decode prog_1_method_13_code 70 = .ok (.iaload, 1)) rfl rfl (by omega) (by decide) ?_
        refine g_top (w := f (19 + 6 * o + 1)) (h.n.p1 (by omega)) ?_
        exact g_iret hR (by decide +kernel : decode prog_1_method_13_code 71 = .ok (.ireturn, 1)) rfl ⟨_, rfl, ⟨by first | (simp only [ofV, pz_of h.i ho5, rg_yes 5 1]; done) | (simp only [ofV, pz_of h.i ho5, rg_yes 5 1]; rfl), h⟩⟩
      · refine g_tableIn (x := nI 2) (off := 58) (tgt := 72) (by decide +kernel : decode prog_1_method_13_code 14 = .ok (.tableswitch 105 0 5 #[38, 48, 58, 68, 78, 95], 38)) (by decide) (by decide) rfl (by decide) ?_
        refine g_aload_n (by decide +kernel : decode prog_1_method_13_code 72 = .ok (.aload_n 0, 1)) rfl ?_
        refine g_getR (by decide +kernel : decode prog_1_method_13_code 73 = .ok (.getfield 20, 3)) fl_LS_20 rfl rfl ?_
        refine g_getR (by decide +kernel : decode prog_1_method_13_code 76 = .ok (.getfield 125, 3)) fl_LS_125 rfl rfl ?_
        refine g_iload_n (by decide +kernel : decode prog_1_method_13_code 79 = .ok (.iload_n 1, 1)) rfl ?_
        refine g_iaload (a := o) (by decide +kernel : decode prog_1_method_13_code 80 = .ok (.iaload, 1)) rfl rfl (by omega) (by decide) ?_
        refine g_top (w := f (19 + 6 * o + 2)) (h.n.p2 (by omega)) ?_
        exact g_iret hR (by decide +kernel : decode prog_1_method_13_code 81 = .ok (.ireturn, 1)) rfl ⟨_, rfl, ⟨by first | (simp only [ofV, pz_of h.i ho5, rg_yes 5 2]; done) | (simp only [ofV, pz_of h.i ho5, rg_yes 5 2]; rfl), h⟩⟩
      · refine g_tableIn (x := nI 3) (off := 68) (tgt := 82) (by decide +kernel : decode prog_1_method_13_code 14 = .ok (.tableswitch 105 0 5 #[38, 48, 58, 68, 78, 95], 38)) (by decide) (by decide) rfl (by decide) ?_
        refine g_aload_n (by decide +kernel : decode prog_1_method_13_code 82 = .ok (.aload_n 0, 1)) rfl ?_
        refine g_getR (by decide +kernel : decode prog_1_method_13_code 83 = .ok (.getfield 20, 3)) fl_LS_20 rfl rfl ?_
        refine g_getR (by decide +kernel : decode prog_1_method_13_code 86 = .ok (.getfield 128, 3)) fl_LS_128 rfl rfl ?_
        refine g_iload_n (by decide +kernel : decode prog_1_method_13_code 89 = .ok (.iload_n 1, 1)) rfl ?_
        refine g_iaload (a := o) (by decide +kernel : decode prog_1_method_13_code 90 = .ok (.iaload, 1)) rfl rfl (by omega) (by decide) ?_
        refine g_top (w := f (19 + 6 * o + 3)) (h.n.p3 (by omega)) ?_
        exact g_iret hR (by decide +kernel : decode prog_1_method_13_code 91 = .ok (.ireturn, 1)) rfl ⟨_, rfl, ⟨by first | (simp only [ofV, pz_of h.i ho5, rg_yes 5 3]; done) | (simp only [ofV, pz_of h.i ho5, rg_yes 5 3]; rfl), h⟩⟩
      · refine g_tableIn (x := nI 4) (off := 78) (tgt := 92) (by decide +kernel : decode prog_1_method_13_code 14 = .ok (.tableswitch 105 0 5 #[38, 48, 58, 68, 78, 95], 38)) (by decide) (by decide) rfl (by decide) ?_
        refine g_aload_n (by decide +kernel : decode prog_1_method_13_code 92 = .ok (.aload_n 0, 1)) rfl ?_
        refine g_getR (by decide +kernel : decode prog_1_method_13_code 93 = .ok (.getfield 20, 3)) fl_LS_20 rfl rfl ?_
        refine g_iload_n (by decide +kernel : decode prog_1_method_13_code 96 = .ok (.iload_n 1, 1)) rfl ?_
        refine g_callVI [.int (nI o)] (by decide +kernel : decode prog_1_method_13_code 97 = .ok (.invokevirtual 131, 3)) lk_LS_131 (n_isHidden h.n (o := o) (by omega)) rfl rfl rfl rfl (Nat.le_of_ble_eq_true rfl) (Nat.le_of_ble_eq_true rfl) (fun r97 s97 h97 => ?_)
        rcases h97 with ⟨e97, ⟨rfl, q97⟩ | ⟨rfl, q97⟩⟩
        · have e97 := e97.symm; subst e97
          refine g_if_eqN (tgt := 107) (by decide +kernel : decode prog_1_method_13_code 100 = .ok (.ifCond .eq 7, 3)) (by decide) (by decide) (fun h => False.elim (by revert h; decide)) (fun _ => ?_)
          refine g_iconst (v := nI 1) (by decide +kernel : decode prog_1_method_13_code 103 = .ok (.iconst 1, 1)) (by decide) ?_
          refine g_goto (tgt := 108) (by decide +kernel : decode prog_1_method_13_code 104 = .ok (.goto 4, 3)) (by decide) ?_
          exact g_iret hR (by decide +kernel : decode prog_1_method_13_code 108 = .ok (.ireturn, 1)) rfl ⟨_, rfl, ⟨by first | (simp only [ofV, pz_of h.i ho5, rg_yes 5 4, q97]; done) | (simp only [ofV, pz_of h.i ho5, rg_yes 5 4, q97]; rfl), h⟩⟩
        · have e97 := e97.symm; subst e97
          refine g_if_eqN (tgt := 107) (by decide +kernel : decode prog_1_method_13_code 100 = .ok (.ifCond .eq 7, 3)) (by decide) (by decide) (fun _ => ?_) (fun h => False.elim (by revert h; decide))
          refine g_iconst (v := nI 0) (by decide +kernel : decode prog_1_method_13_code 107 = .ok (.iconst 0, 1)) (by decide) ?_
          exact g_iret hR (by decide +kernel : decode prog_1_method_13_code 108 = .ok (.ireturn, 1)) rfl ⟨_, rfl, ⟨by first | (simp only [ofV, pz_of h.i ho5, rg_yes 5 4, nh0 h.i (by omega) q97]; done) | (simp only [ofV, pz_of h.i ho5, rg_yes 5 4, nh0 h.i (by omega) q97]; rfl), h⟩⟩
      · refine g_tableIn (x := nI 5) (off := 95) (tgt := 109) (by decide +kernel : decode prog_1_method_13_code 14 = .ok (.tableswitch 105 0 5 #[38, 48, 58, 68, 78, 95], 38)) (by decide) (by decide) rfl (by decide) ?_
        refine g_aload_n (by decide +kernel : decode prog_1_method_13_code 109 = .ok (.aload_n 0, 1)) rfl ?_
        refine g_getR (by decide +kernel : decode prog_1_method_13_code 110 = .ok (.getfield 20, 3)) fl_LS_20 rfl rfl ?_
        refine g_getR (by decide +kernel : decode prog_1_method_13_code 113 = .ok (.getfield 134, 3)) fl_LS_134 rfl rfl ?_
        refine g_iload_n (by decide +kernel : decode prog_1_method_13_code 116 = .ok (.iload_n 1, 1)) rfl ?_
        refine g_iaload (a := o) (by decide +kernel : decode prog_1_method_13_code 117 = .ok (.iaload, 1)) rfl rfl (by omega) (by decide) ?_
        refine g_top (w := f (19 + 6 * o + 5)) (h.n.p5 (by omega)) ?_
        exact g_iret hR (by decide +kernel : decode prog_1_method_13_code 118 = .ok (.ireturn, 1)) rfl ⟨_, rfl, ⟨by first | (simp only [ofV, pz_of h.i ho5, rg_yes 5 5]; done) | (simp only [ofV, pz_of h.i ho5, rg_yes 5 5]; rfl), h⟩⟩
    · refine g_tableOut (tgt := 119) (by decide +kernel : decode prog_1_method_13_code 14 = .ok (.tableswitch 105 0 5 #[38, 48, 58, 68, 78, 95], 38)) (by omega) (by decide) ?_
      refine g_iconst (v := (-1)) (by decide +kernel : decode prog_1_method_13_code 119 = .ok (.iconst (-1), 1)) (by decide) ?_
      exact g_iret hR (by decide +kernel : decode prog_1_method_13_code 120 = .ok (.ireturn, 1)) rfl ⟨_, rfl, ⟨by first | (simp only [ofV, pz_of h.i ho5, rg_no hno]; done) | (simp only [ofV, pz_of h.i ho5, rg_no hno]; rfl), h⟩⟩
  · have e5 := e5.symm; subst e5
    refine g_if_neN (tgt := 13) (by decide +kernel : decode prog_1_method_13_code 8 = .ok (.ifCond .ne 5, 3)) (by decide) (by decide) (fun h => False.elim (by revert h; decide)) (fun _ => ?_)
    refine g_iconst (v := (-1)) (by decide +kernel : decode prog_1_method_13_code 11 = .ok (.iconst (-1), 1)) (by decide) ?_
    exact g_iret hR (by decide +kernel : decode prog_1_method_13_code 12 = .ok (.ireturn, 1)) rfl ⟨_, rfl, ⟨by first | (simp only [ofV, pz_none h.i n5]; done) | (simp only [ofV, pz_none h.i n5]; rfl), h⟩⟩
set_option maxRecDepth 20000 in
theorem k_does {σ τ : Store} {f : Row} (h : RX σ τ f) (x y : Int32) : Ct ΛC mt_LS_does 1 [.ref 0, .int x, .int y] σ (cP τ (doesV f x y) f) := by
  refine Ct.of (by decide) (Nat.le_of_ble_eq_true rfl) (fun X hR => ?_)
  show G (ΛC, mt_LS_does, 1) X σ [some (.ref 0), some (.int x), some (.int y)] [] 0
  have hn8 := h.n8
  refine g_aload_n (by decide +kernel : decode prog_1_method_14_code 0 = .ok (.aload_n 0, 1)) rfl ?_
  refine g_getR (by decide +kernel : decode prog_1_method_14_code 1 = .ok (.getfield 20, 3)) fl_LS_20 rfl rfl ?_
  refine g_iload_n (by decide +kernel : decode prog_1_method_14_code 4 = .ok (.iload_n 1, 1)) rfl ?_
  refine g_callVI [.int x] (by decide +kernel : decode prog_1_method_14_code 5 = .ok (.invokevirtual 116, 3)) lk_LS_116 (n_has h.n x) rfl rfl rfl rfl (Nat.le_of_ble_eq_true rfl) (Nat.le_of_ble_eq_true rfl) (fun r5 s5 h5 => ?_)
  rcases h5 with ⟨e5, ⟨rfl, o, ho5, rfl⟩ | ⟨rfl, n5⟩⟩
  · have e5 := e5.symm; subst e5
    refine g_if_neN (tgt := 13) (by decide +kernel : decode prog_1_method_14_code 8 = .ok (.ifCond .ne 5, 3)) (by decide) (by decide) (fun _ => ?_) (fun h => False.elim (by revert h; decide))
    refine g_iload_n (by decide +kernel : decode prog_1_method_14_code 13 = .ok (.iload_n 2, 1)) rfl ?_
    rcases sw_in y 3 (by decide) with ⟨j, hj, rfl⟩ | ⟨ho, hno⟩
    · rcases (show j = 0 ∨ j = 1 ∨ j = 2 by omega) with rfl | rfl | rfl
      · refine g_tableIn (x := nI 0) (off := 26) (tgt := 40) (by decide +kernel : decode prog_1_method_14_code 14 = .ok (.tableswitch 65 0 2 #[26, 39, 52], 26)) (by decide) (by decide) rfl (by decide) ?_
        refine g_sipush (v := nI 1000) (by decide +kernel : decode prog_1_method_14_code 40 = .ok (.sipush 1000, 3)) (by decide) ?_
        refine g_aload_n (by decide +kernel : decode prog_1_method_14_code 43 = .ok (.aload_n 0, 1)) rfl ?_
        refine g_getR (by decide +kernel : decode prog_1_method_14_code 44 = .ok (.getfield 20, 3)) fl_LS_20 rfl rfl ?_
        refine g_iload_n (by decide +kernel : decode prog_1_method_14_code 47 = .ok (.iload_n 1, 1)) rfl ?_
        refine g_callVI [.int (nI o)] (by decide +kernel : decode prog_1_method_14_code 48 = .ok (.invokevirtual 137, 3)) lk_LS_137 (n_hides h.n (o := o) (by omega)) rfl rfl rfl rfl (Nat.le_of_ble_eq_true rfl) (Nat.le_of_ble_eq_true rfl) (fun r48 s48 h48 => ?_)
        obtain ⟨rfl, e48⟩ := h48
        have e48 := e48.symm; subst e48
        refine g_iadd (by decide +kernel : decode prog_1_method_14_code 51 = .ok (.iadd, 1)) ?_
        exact g_iret hR (by decide +kernel : decode prog_1_method_14_code 52 = .ok (.ireturn, 1)) rfl ⟨_, rfl, ⟨by first | (simp only [doesV, pz_of h.i ho5, rg_yes 2 0]; done) | (simp only [doesV, pz_of h.i ho5, rg_yes 2 0]; rfl), h⟩⟩
      · refine g_tableIn (x := nI 1) (off := 39) (tgt := 53) (by decide +kernel : decode prog_1_method_14_code 14 = .ok (.tableswitch 65 0 2 #[26, 39, 52], 26)) (by decide) (by decide) rfl (by decide) ?_
        refine g_sipush (v := nI 1000) (by decide +kernel : decode prog_1_method_14_code 53 = .ok (.sipush 1000, 3)) (by decide) ?_
        refine g_aload_n (by decide +kernel : decode prog_1_method_14_code 56 = .ok (.aload_n 0, 1)) rfl ?_
        refine g_getR (by decide +kernel : decode prog_1_method_14_code 57 = .ok (.getfield 20, 3)) fl_LS_20 rfl rfl ?_
        refine g_iload_n (by decide +kernel : decode prog_1_method_14_code 60 = .ok (.iload_n 1, 1)) rfl ?_
        refine g_callVI [.int (nI o)] (by decide +kernel : decode prog_1_method_14_code 61 = .ok (.invokevirtual 141, 3)) lk_LS_141 (n_sees h.n (o := o) (by omega)) rfl rfl rfl rfl (Nat.le_of_ble_eq_true rfl) (Nat.le_of_ble_eq_true rfl) (fun r61 s61 h61 => ?_)
        obtain ⟨rfl, e61⟩ := h61
        have e61 := e61.symm; subst e61
        refine g_iadd (by decide +kernel : decode prog_1_method_14_code 64 = .ok (.iadd, 1)) ?_
        exact g_iret hR (by decide +kernel : decode prog_1_method_14_code 65 = .ok (.ireturn, 1)) rfl ⟨_, rfl, ⟨by first | (simp only [doesV, pz_of h.i ho5, rg_yes 2 1]; done) | (simp only [doesV, pz_of h.i ho5, rg_yes 2 1]; rfl), h⟩⟩
      · refine g_tableIn (x := nI 2) (off := 52) (tgt := 66) (by decide +kernel : decode prog_1_method_14_code 14 = .ok (.tableswitch 65 0 2 #[26, 39, 52], 26)) (by decide) (by decide) rfl (by decide) ?_
        refine g_sipush (v := nI 1000) (by decide +kernel : decode prog_1_method_14_code 66 = .ok (.sipush 1000, 3)) (by decide) ?_
        refine g_aload_n (by decide +kernel : decode prog_1_method_14_code 69 = .ok (.aload_n 0, 1)) rfl ?_
        refine g_getR (by decide +kernel : decode prog_1_method_14_code 70 = .ok (.getfield 20, 3)) fl_LS_20 rfl rfl ?_
        refine g_iload_n (by decide +kernel : decode prog_1_method_14_code 73 = .ok (.iload_n 1, 1)) rfl ?_
        refine g_callVI [.int (nI o)] (by decide +kernel : decode prog_1_method_14_code 74 = .ok (.invokevirtual 144, 3)) lk_LS_144 (n_strides h.n (o := o) (by omega)) rfl rfl rfl rfl (Nat.le_of_ble_eq_true rfl) (Nat.le_of_ble_eq_true rfl) (fun r74 s74 h74 => ?_)
        obtain ⟨rfl, e74⟩ := h74
        have e74 := e74.symm; subst e74
        refine g_iadd (by decide +kernel : decode prog_1_method_14_code 77 = .ok (.iadd, 1)) ?_
        exact g_iret hR (by decide +kernel : decode prog_1_method_14_code 78 = .ok (.ireturn, 1)) rfl ⟨_, rfl, ⟨by first | (simp only [doesV, pz_of h.i ho5, rg_yes 2 2]; done) | (simp only [doesV, pz_of h.i ho5, rg_yes 2 2]; rfl), h⟩⟩
    · refine g_tableOut (tgt := 79) (by decide +kernel : decode prog_1_method_14_code 14 = .ok (.tableswitch 65 0 2 #[26, 39, 52], 26)) (by omega) (by decide) ?_
      refine g_iconst (v := (-1)) (by decide +kernel : decode prog_1_method_14_code 79 = .ok (.iconst (-1), 1)) (by decide) ?_
      exact g_iret hR (by decide +kernel : decode prog_1_method_14_code 80 = .ok (.ireturn, 1)) rfl ⟨_, rfl, ⟨by first | (simp only [doesV, pz_of h.i ho5, rg_no hno]; done) | (simp only [doesV, pz_of h.i ho5, rg_no hno]; rfl), h⟩⟩
  · have e5 := e5.symm; subst e5
    refine g_if_neN (tgt := 13) (by decide +kernel : decode prog_1_method_14_code 8 = .ok (.ifCond .ne 5, 3)) (by decide) (by decide) (fun h => False.elim (by revert h; decide)) (fun _ => ?_)
    refine g_iconst (v := (-1)) (by decide +kernel : decode prog_1_method_14_code 11 = .ok (.iconst (-1), 1)) (by decide) ?_
    exact g_iret hR (by decide +kernel : decode prog_1_method_14_code 12 = .ok (.ireturn, 1)) rfl ⟨_, rfl, ⟨by first | (simp only [doesV, pz_none h.i n5]; done) | (simp only [doesV, pz_none h.i n5]; rfl), h⟩⟩
set_option maxRecDepth 20000 in
theorem k_mind {σ τ : Store} {f : Row} (h : RX σ τ f) (x y z : Int32) : Ct ΛC mt_LS_mind 2 [.ref 0, .int x, .int y, .int z] σ (cP τ (mindV f x y z) (mindT f x y z)) := by
  refine Ct.of (by decide) (Nat.le_of_ble_eq_true rfl) (fun X hR => ?_)
  show G (ΛC, mt_LS_mind, 2) X σ [some (.ref 0), some (.int x), some (.int y), some (.int z), none] [] 0
  have hn8 := h.n8
  refine g_aload_n (by decide +kernel : decode prog_1_method_15_code 0 = .ok (.aload_n 0, 1)) rfl ?_
  refine g_getR (by decide +kernel : decode prog_1_method_15_code 1 = .ok (.getfield 20, 3)) fl_LS_20 rfl rfl ?_
  refine g_iload_n (by decide +kernel : decode prog_1_method_15_code 4 = .ok (.iload_n 1, 1)) rfl ?_
  refine g_callVI [.int x] (by decide +kernel : decode prog_1_method_15_code 5 = .ok (.invokevirtual 116, 3)) lk_LS_116 (n_has h.n x) rfl rfl rfl rfl (Nat.le_of_ble_eq_true rfl) (Nat.le_of_ble_eq_true rfl) (fun r5 s5 h5 => ?_)
  rcases h5 with ⟨e5, ⟨rfl, o, ho5, rfl⟩ | ⟨rfl, n5⟩⟩
  · have e5 := e5.symm; subst e5
    refine g_if_eqN (tgt := 28) (by decide +kernel : decode prog_1_method_15_code 8 = .ok (.ifCond .eq 20, 3)) (by decide) (by decide) (fun h => False.elim (by revert h; decide)) (fun _ => ?_)
    refine g_iload_n (by decide +kernel : decode prog_1_method_15_code 11 = .ok (.iload_n 2, 1)) rfl ?_
    refine g_callSI [.int y] (by decide +kernel : decode prog_1_method_15_code 12 = .ok (.invokestatic 106, 3)) lk_LS_106 (k_isKind _ y) rfl rfl (Nat.le_of_ble_eq_true rfl) (Nat.le_of_ble_eq_true rfl) (fun r12 s12 h12 => ?_)
    rcases h12 with ⟨e12, ⟨rfl, k, ha12, hb12, rfl⟩ | ⟨rfl, n12⟩⟩
    · have e12 := e12.symm; subst e12
      refine g_if_eqN (tgt := 28) (by decide +kernel : decode prog_1_method_15_code 15 = .ok (.ifCond .eq 13, 3)) (by decide) (by decide) (fun h => False.elim (by revert h; decide)) (fun _ => ?_)
      refine g_iload_n (by decide +kernel : decode prog_1_method_15_code 18 = .ok (.iload_n 3, 1)) rfl ?_
      refine g_iconst (v := nI 0) (by decide +kernel : decode prog_1_method_15_code 19 = .ok (.iconst 0, 1)) (by decide) ?_
      refine g_bipush (v := nI 9) (by decide +kernel : decode prog_1_method_15_code 20 = .ok (.bipush 9, 2)) (by decide) ?_
      refine g_callSI [.int z, .int (nI 0), .int (nI 9)] (by decide +kernel : decode prog_1_method_15_code 22 = .ok (.invokestatic 62, 3)) lk_LS_62 (k_within _ z 0 9) rfl rfl (Nat.le_of_ble_eq_true rfl) (Nat.le_of_ble_eq_true rfl) (fun r22 s22 h22 => ?_)
      rcases h22 with ⟨e22, ⟨rfl, w, ha22, hb22, rfl⟩ | ⟨rfl, n22⟩⟩
      · have e22 := e22.symm; subst e22
        refine g_if_neN (tgt := 30) (by decide +kernel : decode prog_1_method_15_code 25 = .ok (.ifCond .ne 5, 3)) (by decide) (by decide) (fun _ => ?_) (fun h => False.elim (by revert h; decide))
        refine g_aload_n (by decide +kernel : decode prog_1_method_15_code 30 = .ok (.aload_n 0, 1)) rfl ?_
        refine g_getR (by decide +kernel : decode prog_1_method_15_code 31 = .ok (.getfield 20, 3)) fl_LS_20 rfl rfl ?_
        refine g_getR (by decide +kernel : decode prog_1_method_15_code 34 = .ok (.getfield 119, 3)) fl_LS_119 rfl rfl ?_
        refine g_iload_n (by decide +kernel : decode prog_1_method_15_code 37 = .ok (.iload_n 1, 1)) rfl ?_
        refine g_iaload (a := o) (by decide +kernel : decode prog_1_method_15_code 38 = .ok (.iaload, 1)) rfl rfl (by omega) (by decide) ?_
        refine g_top (w := f (19 + 6 * o + 0)) (h.n.p0 (by omega)) ?_
        refine g_istore (L' := [some (.ref 0), some (.int (nI o)), some (.int (nI k)), some (.int (nI w)), some (.int (f (19 + 6 * o + 0)))]) (by decide +kernel : decode prog_1_method_15_code 39 = .ok (.istore 4, 2)) (Nat.le_of_ble_eq_true rfl) rfl ?_
        refine g_aload_n (by decide +kernel : decode prog_1_method_15_code 41 = .ok (.aload_n 0, 1)) rfl ?_
        refine g_getR (by decide +kernel : decode prog_1_method_15_code 42 = .ok (.getfield 20, 3)) fl_LS_20 rfl rfl ?_
        refine g_getR (by decide +kernel : decode prog_1_method_15_code 45 = .ok (.getfield 119, 3)) fl_LS_119 rfl rfl ?_
        refine g_iload_n (by decide +kernel : decode prog_1_method_15_code 48 = .ok (.iload_n 1, 1)) rfl ?_
        refine g_iload_n (by decide +kernel : decode prog_1_method_15_code 49 = .ok (.iload_n 2, 1)) rfl ?_
        refine g_iastore (a := o) (by decide +kernel : decode prog_1_method_15_code 50 = .ok (.iastore, 1)) rfl rfl (by omega) (by decide) ?_
        have p51 := h.w0 (o := o) (v := (nI k)) (Rng.of (show k ≤ 5 by omega))
        refine g_aload_n (by decide +kernel : decode prog_1_method_15_code 51 = .ok (.aload_n 0, 1)) rfl ?_
        refine g_getR (by decide +kernel : decode prog_1_method_15_code 52 = .ok (.getfield 20, 3)) fl_LS_20 rfl rfl ?_
        refine g_getR (by decide +kernel : decode prog_1_method_15_code 55 = .ok (.getfield 125, 3)) fl_LS_125 rfl rfl ?_
        refine g_iload_n (by decide +kernel : decode prog_1_method_15_code 58 = .ok (.iload_n 1, 1)) rfl ?_
        refine g_iload_n (by decide +kernel : decode prog_1_method_15_code 59 = .ok (.iload_n 3, 1)) rfl ?_
        refine g_iastore (a := o) (by decide +kernel : decode prog_1_method_15_code 60 = .ok (.iastore, 1)) rfl rfl (by omega) (by decide) ?_
        have p61 := p51.w2 (o := o) (v := (nI w)) (Rng.of (show w ≤ 9 by omega))
        refine g_iload (by decide +kernel : decode prog_1_method_15_code 61 = .ok (.iload 4, 2)) rfl ?_
        exact g_iret hR (by decide +kernel : decode prog_1_method_15_code 63 = .ok (.ireturn, 1)) rfl ⟨_, rfl, ⟨by first | (simp only [mindV, pz_of h.i ho5, rg_of ha12 hb12, rg_of ha22 hb22]; done) | (simp only [mindV, pz_of h.i ho5, rg_of ha12 hb12, rg_of ha22 hb22]; rfl), by simp only [mindT, pz_of h.i ho5, rg_of ha12 hb12, rg_of ha22 hb22]; rw [upd_cm (show 19 + 6 * o + 2 ≠ 19 + 6 * o + 0 by omega)]; exact p61⟩⟩
      · have e22 := e22.symm; subst e22
        refine g_if_neN (tgt := 30) (by decide +kernel : decode prog_1_method_15_code 25 = .ok (.ifCond .ne 5, 3)) (by decide) (by decide) (fun h => False.elim (by revert h; decide)) (fun _ => ?_)
        refine g_iconst (v := (-1)) (by decide +kernel : decode prog_1_method_15_code 28 = .ok (.iconst (-1), 1)) (by decide) ?_
        exact g_iret hR (by decide +kernel : decode prog_1_method_15_code 29 = .ok (.ireturn, 1)) rfl ⟨_, rfl, ⟨by first | (simp only [mindV, pz_of h.i ho5, rg_of ha12 hb12, rg_none n22]; done) | (simp only [mindV, pz_of h.i ho5, rg_of ha12 hb12, rg_none n22]; rfl), by simp only [mindT, pz_of h.i ho5, rg_of ha12 hb12, rg_none n22]; exact h⟩⟩
    · have e12 := e12.symm; subst e12
      refine g_if_eqN (tgt := 28) (by decide +kernel : decode prog_1_method_15_code 15 = .ok (.ifCond .eq 13, 3)) (by decide) (by decide) (fun _ => ?_) (fun h => False.elim (by revert h; decide))
      refine g_iconst (v := (-1)) (by decide +kernel : decode prog_1_method_15_code 28 = .ok (.iconst (-1), 1)) (by decide) ?_
      exact g_iret hR (by decide +kernel : decode prog_1_method_15_code 29 = .ok (.ireturn, 1)) rfl ⟨_, rfl, ⟨by first | (simp only [mindV, pz_of h.i ho5, rg_none n12]; done) | (simp only [mindV, pz_of h.i ho5, rg_none n12]; rfl), by simp only [mindT, pz_of h.i ho5, rg_none n12]; exact h⟩⟩
  · have e5 := e5.symm; subst e5
    refine g_if_eqN (tgt := 28) (by decide +kernel : decode prog_1_method_15_code 8 = .ok (.ifCond .eq 20, 3)) (by decide) (by decide) (fun _ => ?_) (fun h => False.elim (by revert h; decide))
    refine g_iconst (v := (-1)) (by decide +kernel : decode prog_1_method_15_code 28 = .ok (.iconst (-1), 1)) (by decide) ?_
    exact g_iret hR (by decide +kernel : decode prog_1_method_15_code 29 = .ok (.ireturn, 1)) rfl ⟨_, rfl, ⟨by first | (simp only [mindV, pz_none h.i n5]; done) | (simp only [mindV, pz_none h.i n5]; rfl), by simp only [mindT, pz_none h.i n5]; exact h⟩⟩
set_option maxRecDepth 20000 in
theorem k_age {σ τ : Store} {f : Row} (h : RX σ τ f) (x y : Int32) : Ct ΛC mt_LS_age 1 [.ref 0, .int x, .int y] σ (cP τ (oneV 1 99 f x y) (oneT 1 99 f x y)) := by
  refine Ct.of (by decide) (Nat.le_of_ble_eq_true rfl) (fun X hR => ?_)
  show G (ΛC, mt_LS_age, 1) X σ [some (.ref 0), some (.int x), some (.int y), none] [] 0
  have hn8 := h.n8
  refine g_aload_n (by decide +kernel : decode prog_1_method_16_code 0 = .ok (.aload_n 0, 1)) rfl ?_
  refine g_getR (by decide +kernel : decode prog_1_method_16_code 1 = .ok (.getfield 20, 3)) fl_LS_20 rfl rfl ?_
  refine g_iload_n (by decide +kernel : decode prog_1_method_16_code 4 = .ok (.iload_n 1, 1)) rfl ?_
  refine g_callVI [.int x] (by decide +kernel : decode prog_1_method_16_code 5 = .ok (.invokevirtual 116, 3)) lk_LS_116 (n_has h.n x) rfl rfl rfl rfl (Nat.le_of_ble_eq_true rfl) (Nat.le_of_ble_eq_true rfl) (fun r5 s5 h5 => ?_)
  rcases h5 with ⟨e5, ⟨rfl, o, ho5, rfl⟩ | ⟨rfl, n5⟩⟩
  · have e5 := e5.symm; subst e5
    refine g_if_eqN (tgt := 21) (by decide +kernel : decode prog_1_method_16_code 8 = .ok (.ifCond .eq 13, 3)) (by decide) (by decide) (fun h => False.elim (by revert h; decide)) (fun _ => ?_)
    refine g_iload_n (by decide +kernel : decode prog_1_method_16_code 11 = .ok (.iload_n 2, 1)) rfl ?_
    refine g_iconst (v := nI 0) (by decide +kernel : decode prog_1_method_16_code 12 = .ok (.iconst 0, 1)) (by decide) ?_
    refine g_bipush (v := nI 99) (by decide +kernel : decode prog_1_method_16_code 13 = .ok (.bipush 99, 2)) (by decide) ?_
    refine g_callSI [.int y, .int (nI 0), .int (nI 99)] (by decide +kernel : decode prog_1_method_16_code 15 = .ok (.invokestatic 62, 3)) lk_LS_62 (k_within _ y 0 99) rfl rfl (Nat.le_of_ble_eq_true rfl) (Nat.le_of_ble_eq_true rfl) (fun r15 s15 h15 => ?_)
    rcases h15 with ⟨e15, ⟨rfl, v, ha15, hb15, rfl⟩ | ⟨rfl, n15⟩⟩
    · have e15 := e15.symm; subst e15
      refine g_if_neN (tgt := 23) (by decide +kernel : decode prog_1_method_16_code 18 = .ok (.ifCond .ne 5, 3)) (by decide) (by decide) (fun _ => ?_) (fun h => False.elim (by revert h; decide))
      refine g_aload_n (by decide +kernel : decode prog_1_method_16_code 23 = .ok (.aload_n 0, 1)) rfl ?_
      refine g_getR (by decide +kernel : decode prog_1_method_16_code 24 = .ok (.getfield 20, 3)) fl_LS_20 rfl rfl ?_
      refine g_getR (by decide +kernel : decode prog_1_method_16_code 27 = .ok (.getfield 122, 3)) fl_LS_122 rfl rfl ?_
      refine g_iload_n (by decide +kernel : decode prog_1_method_16_code 30 = .ok (.iload_n 1, 1)) rfl ?_
      refine g_iaload (a := o) (by decide +kernel : decode prog_1_method_16_code 31 = .ok (.iaload, 1)) rfl rfl (by omega) (by decide) ?_
      refine g_top (w := f (19 + 6 * o + 1)) (h.n.p1 (by omega)) ?_
      refine g_istore_n (L' := [some (.ref 0), some (.int (nI o)), some (.int (nI v)), some (.int (f (19 + 6 * o + 1)))]) (by decide +kernel : decode prog_1_method_16_code 32 = .ok (.istore_n 3, 1)) (Nat.le_of_ble_eq_true rfl) rfl ?_
      refine g_aload_n (by decide +kernel : decode prog_1_method_16_code 33 = .ok (.aload_n 0, 1)) rfl ?_
      refine g_getR (by decide +kernel : decode prog_1_method_16_code 34 = .ok (.getfield 20, 3)) fl_LS_20 rfl rfl ?_
      refine g_getR (by decide +kernel : decode prog_1_method_16_code 37 = .ok (.getfield 122, 3)) fl_LS_122 rfl rfl ?_
      refine g_iload_n (by decide +kernel : decode prog_1_method_16_code 40 = .ok (.iload_n 1, 1)) rfl ?_
      refine g_iload_n (by decide +kernel : decode prog_1_method_16_code 41 = .ok (.iload_n 2, 1)) rfl ?_
      refine g_iastore (a := o) (by decide +kernel : decode prog_1_method_16_code 42 = .ok (.iastore, 1)) rfl rfl (by omega) (by decide) ?_
      have p43 := h.w1 (o := o) (v := (nI v)) (Rng.of (show v ≤ 99 by omega))
      refine g_iload_n (by decide +kernel : decode prog_1_method_16_code 43 = .ok (.iload_n 3, 1)) rfl ?_
      exact g_iret hR (by decide +kernel : decode prog_1_method_16_code 44 = .ok (.ireturn, 1)) rfl ⟨_, rfl, ⟨by first | (simp only [oneV, pz_of h.i ho5, rg_of ha15 hb15]; done) | (simp only [oneV, pz_of h.i ho5, rg_of ha15 hb15]; rfl), by simp only [oneT, pz_of h.i ho5, rg_of ha15 hb15]; exact p43⟩⟩
    · have e15 := e15.symm; subst e15
      refine g_if_neN (tgt := 23) (by decide +kernel : decode prog_1_method_16_code 18 = .ok (.ifCond .ne 5, 3)) (by decide) (by decide) (fun h => False.elim (by revert h; decide)) (fun _ => ?_)
      refine g_iconst (v := (-1)) (by decide +kernel : decode prog_1_method_16_code 21 = .ok (.iconst (-1), 1)) (by decide) ?_
      exact g_iret hR (by decide +kernel : decode prog_1_method_16_code 22 = .ok (.ireturn, 1)) rfl ⟨_, rfl, ⟨by first | (simp only [oneV, pz_of h.i ho5, rg_none n15]; done) | (simp only [oneV, pz_of h.i ho5, rg_none n15]; rfl), by simp only [oneT, pz_of h.i ho5, rg_none n15]; exact h⟩⟩
  · have e5 := e5.symm; subst e5
    refine g_if_eqN (tgt := 21) (by decide +kernel : decode prog_1_method_16_code 8 = .ok (.ifCond .eq 13, 3)) (by decide) (by decide) (fun _ => ?_) (fun h => False.elim (by revert h; decide))
    refine g_iconst (v := (-1)) (by decide +kernel : decode prog_1_method_16_code 21 = .ok (.iconst (-1), 1)) (by decide) ?_
    exact g_iret hR (by decide +kernel : decode prog_1_method_16_code 22 = .ok (.ireturn, 1)) rfl ⟨_, rfl, ⟨by first | (simp only [oneV, pz_none h.i n5]; done) | (simp only [oneV, pz_none h.i n5]; rfl), by simp only [oneT, pz_none h.i n5]; exact h⟩⟩
set_option maxRecDepth 20000 in
theorem k_bring {σ τ : Store} {f : Row} (h : RX σ τ f) (x y : Int32) : Ct ΛC mt_LS_bring 2 [.ref 0, .int x, .int y] σ (cP τ (oneV 3 11 f x y) (oneT 3 11 f x y)) := by
  refine Ct.of (by decide) (Nat.le_of_ble_eq_true rfl) (fun X hR => ?_)
  show G (ΛC, mt_LS_bring, 2) X σ [some (.ref 0), some (.int x), some (.int y), none] [] 0
  have hn8 := h.n8
  refine g_aload_n (by decide +kernel : decode prog_1_method_17_code 0 = .ok (.aload_n 0, 1)) rfl ?_
  refine g_getR (by decide +kernel : decode prog_1_method_17_code 1 = .ok (.getfield 20, 3)) fl_LS_20 rfl rfl ?_
  refine g_iload_n (by decide +kernel : decode prog_1_method_17_code 4 = .ok (.iload_n 1, 1)) rfl ?_
  refine g_callVI [.int x] (by decide +kernel : decode prog_1_method_17_code 5 = .ok (.invokevirtual 116, 3)) lk_LS_116 (n_has h.n x) rfl rfl rfl rfl (Nat.le_of_ble_eq_true rfl) (Nat.le_of_ble_eq_true rfl) (fun r5 s5 h5 => ?_)
  rcases h5 with ⟨e5, ⟨rfl, o, ho5, rfl⟩ | ⟨rfl, n5⟩⟩
  · have e5 := e5.symm; subst e5
    refine g_if_eqN (tgt := 18) (by decide +kernel : decode prog_1_method_17_code 8 = .ok (.ifCond .eq 10, 3)) (by decide) (by decide) (fun h => False.elim (by revert h; decide)) (fun _ => ?_)
    refine g_iload_n (by decide +kernel : decode prog_1_method_17_code 11 = .ok (.iload_n 2, 1)) rfl ?_
    refine g_callSI [.int y] (by decide +kernel : decode prog_1_method_17_code 12 = .ok (.invokestatic 109, 3)) lk_LS_109 (k_isPlace _ y) rfl rfl (Nat.le_of_ble_eq_true rfl) (Nat.le_of_ble_eq_true rfl) (fun r12 s12 h12 => ?_)
    rcases h12 with ⟨e12, ⟨rfl, p, ha12, hb12, rfl⟩ | ⟨rfl, n12⟩⟩
    · have e12 := e12.symm; subst e12
      refine g_if_neN (tgt := 20) (by decide +kernel : decode prog_1_method_17_code 15 = .ok (.ifCond .ne 5, 3)) (by decide) (by decide) (fun _ => ?_) (fun h => False.elim (by revert h; decide))
      refine g_aload_n (by decide +kernel : decode prog_1_method_17_code 20 = .ok (.aload_n 0, 1)) rfl ?_
      refine g_getR (by decide +kernel : decode prog_1_method_17_code 21 = .ok (.getfield 20, 3)) fl_LS_20 rfl rfl ?_
      refine g_getR (by decide +kernel : decode prog_1_method_17_code 24 = .ok (.getfield 128, 3)) fl_LS_128 rfl rfl ?_
      refine g_iload_n (by decide +kernel : decode prog_1_method_17_code 27 = .ok (.iload_n 1, 1)) rfl ?_
      refine g_iaload (a := o) (by decide +kernel : decode prog_1_method_17_code 28 = .ok (.iaload, 1)) rfl rfl (by omega) (by decide) ?_
      refine g_top (w := f (19 + 6 * o + 3)) (h.n.p3 (by omega)) ?_
      refine g_istore_n (L' := [some (.ref 0), some (.int (nI o)), some (.int (nI p)), some (.int (f (19 + 6 * o + 3)))]) (by decide +kernel : decode prog_1_method_17_code 29 = .ok (.istore_n 3, 1)) (Nat.le_of_ble_eq_true rfl) rfl ?_
      refine g_aload_n (by decide +kernel : decode prog_1_method_17_code 30 = .ok (.aload_n 0, 1)) rfl ?_
      refine g_getR (by decide +kernel : decode prog_1_method_17_code 31 = .ok (.getfield 20, 3)) fl_LS_20 rfl rfl ?_
      refine g_getR (by decide +kernel : decode prog_1_method_17_code 34 = .ok (.getfield 128, 3)) fl_LS_128 rfl rfl ?_
      refine g_iload_n (by decide +kernel : decode prog_1_method_17_code 37 = .ok (.iload_n 1, 1)) rfl ?_
      refine g_iload_n (by decide +kernel : decode prog_1_method_17_code 38 = .ok (.iload_n 2, 1)) rfl ?_
      refine g_iastore (a := o) (by decide +kernel : decode prog_1_method_17_code 39 = .ok (.iastore, 1)) rfl rfl (by omega) (by decide) ?_
      have p40 := h.w3 (o := o) (v := (nI p)) (Rng.of (show p ≤ 11 by omega))
      refine g_iload_n (by decide +kernel : decode prog_1_method_17_code 40 = .ok (.iload_n 3, 1)) rfl ?_
      exact g_iret hR (by decide +kernel : decode prog_1_method_17_code 41 = .ok (.ireturn, 1)) rfl ⟨_, rfl, ⟨by first | (simp only [oneV, pz_of h.i ho5, rg_of ha12 hb12]; done) | (simp only [oneV, pz_of h.i ho5, rg_of ha12 hb12]; rfl), by simp only [oneT, pz_of h.i ho5, rg_of ha12 hb12]; exact p40⟩⟩
    · have e12 := e12.symm; subst e12
      refine g_if_neN (tgt := 20) (by decide +kernel : decode prog_1_method_17_code 15 = .ok (.ifCond .ne 5, 3)) (by decide) (by decide) (fun h => False.elim (by revert h; decide)) (fun _ => ?_)
      refine g_iconst (v := (-1)) (by decide +kernel : decode prog_1_method_17_code 18 = .ok (.iconst (-1), 1)) (by decide) ?_
      exact g_iret hR (by decide +kernel : decode prog_1_method_17_code 19 = .ok (.ireturn, 1)) rfl ⟨_, rfl, ⟨by first | (simp only [oneV, pz_of h.i ho5, rg_none n12]; done) | (simp only [oneV, pz_of h.i ho5, rg_none n12]; rfl), by simp only [oneT, pz_of h.i ho5, rg_none n12]; exact h⟩⟩
  · have e5 := e5.symm; subst e5
    refine g_if_eqN (tgt := 18) (by decide +kernel : decode prog_1_method_17_code 8 = .ok (.ifCond .eq 10, 3)) (by decide) (by decide) (fun _ => ?_) (fun h => False.elim (by revert h; decide))
    refine g_iconst (v := (-1)) (by decide +kernel : decode prog_1_method_17_code 18 = .ok (.iconst (-1), 1)) (by decide) ?_
    exact g_iret hR (by decide +kernel : decode prog_1_method_17_code 19 = .ok (.ireturn, 1)) rfl ⟨_, rfl, ⟨by first | (simp only [oneV, pz_none h.i n5]; done) | (simp only [oneV, pz_none h.i n5]; rfl), by simp only [oneT, pz_none h.i n5]; exact h⟩⟩
set_option maxRecDepth 20000 in
theorem k_seek {σ τ : Store} {f : Row} (h : RX σ τ f) (x y : Int32) : Ct ΛC mt_LS_seek 1 [.ref 0, .int x, .int y] σ (cP τ (seekV f x y) (seekT f x y)) := by
  refine Ct.of (by decide) (Nat.le_of_ble_eq_true rfl) (fun X hR => ?_)
  show G (ΛC, mt_LS_seek, 1) X σ [some (.ref 0), some (.int x), some (.int y), none] [] 0
  have hn8 := h.n8
  refine g_aload_n (by decide +kernel : decode prog_1_method_18_code 0 = .ok (.aload_n 0, 1)) rfl ?_
  refine g_getR (by decide +kernel : decode prog_1_method_18_code 1 = .ok (.getfield 20, 3)) fl_LS_20 rfl rfl ?_
  refine g_iload_n (by decide +kernel : decode prog_1_method_18_code 4 = .ok (.iload_n 1, 1)) rfl ?_
  refine g_callVI [.int x] (by decide +kernel : decode prog_1_method_18_code 5 = .ok (.invokevirtual 116, 3)) lk_LS_116 (n_has h.n x) rfl rfl rfl rfl (Nat.le_of_ble_eq_true rfl) (Nat.le_of_ble_eq_true rfl) (fun r5 s5 h5 => ?_)
  rcases h5 with ⟨e5, ⟨rfl, o, ho5, rfl⟩ | ⟨rfl, n5⟩⟩
  · have e5 := e5.symm; subst e5
    refine g_if_eqN (tgt := 20) (by decide +kernel : decode prog_1_method_18_code 8 = .ok (.ifCond .eq 12, 3)) (by decide) (by decide) (fun h => False.elim (by revert h; decide)) (fun _ => ?_)
    refine g_iload_n (by decide +kernel : decode prog_1_method_18_code 11 = .ok (.iload_n 2, 1)) rfl ?_
    refine g_iconst (v := nI 0) (by decide +kernel : decode prog_1_method_18_code 12 = .ok (.iconst 0, 1)) (by decide) ?_
    refine g_iconst (v := nI 1) (by decide +kernel : decode prog_1_method_18_code 13 = .ok (.iconst 1, 1)) (by decide) ?_
    refine g_callSI [.int y, .int (nI 0), .int (nI 1)] (by decide +kernel : decode prog_1_method_18_code 14 = .ok (.invokestatic 62, 3)) lk_LS_62 (k_within _ y 0 1) rfl rfl (Nat.le_of_ble_eq_true rfl) (Nat.le_of_ble_eq_true rfl) (fun r14 s14 h14 => ?_)
    rcases h14 with ⟨e14, ⟨rfl, v, ha14, hb14, rfl⟩ | ⟨rfl, n14⟩⟩
    · have e14 := e14.symm; subst e14
      refine g_if_neN (tgt := 22) (by decide +kernel : decode prog_1_method_18_code 17 = .ok (.ifCond .ne 5, 3)) (by decide) (by decide) (fun _ => ?_) (fun h => False.elim (by revert h; decide))
      refine g_aload_n (by decide +kernel : decode prog_1_method_18_code 22 = .ok (.aload_n 0, 1)) rfl ?_
      refine g_getR (by decide +kernel : decode prog_1_method_18_code 23 = .ok (.getfield 20, 3)) fl_LS_20 rfl rfl ?_
      refine g_iload_n (by decide +kernel : decode prog_1_method_18_code 26 = .ok (.iload_n 1, 1)) rfl ?_
      refine g_callVI [.int (nI o)] (by decide +kernel : decode prog_1_method_18_code 27 = .ok (.invokevirtual 131, 3)) lk_LS_131 (n_isHidden h.n (o := o) (by omega)) rfl rfl rfl rfl (Nat.le_of_ble_eq_true rfl) (Nat.le_of_ble_eq_true rfl) (fun r27 s27 h27 => ?_)
      rcases h27 with ⟨e27, ⟨rfl, q27⟩ | ⟨rfl, q27⟩⟩
      · have e27 := e27.symm; subst e27
        refine g_if_eqN (tgt := 37) (by decide +kernel : decode prog_1_method_18_code 30 = .ok (.ifCond .eq 7, 3)) (by decide) (by decide) (fun h => False.elim (by revert h; decide)) (fun _ => ?_)
        refine g_iconst (v := nI 0) (by decide +kernel : decode prog_1_method_18_code 33 = .ok (.iconst 0, 1)) (by decide) ?_
        refine g_goto (tgt := 38) (by decide +kernel : decode prog_1_method_18_code 34 = .ok (.goto 4, 3)) (by decide) ?_
        refine g_istore_n (L' := [some (.ref 0), some (.int (nI o)), some (.int (nI v)), some (.int (nI 0))]) (by decide +kernel : decode prog_1_method_18_code 38 = .ok (.istore_n 3, 1)) (Nat.le_of_ble_eq_true rfl) rfl ?_
        refine g_aload_n (by decide +kernel : decode prog_1_method_18_code 39 = .ok (.aload_n 0, 1)) rfl ?_
        refine g_getR (by decide +kernel : decode prog_1_method_18_code 40 = .ok (.getfield 20, 3)) fl_LS_20 rfl rfl ?_
        refine g_iload_n (by decide +kernel : decode prog_1_method_18_code 43 = .ok (.iload_n 1, 1)) rfl ?_
        refine g_iload_n (by decide +kernel : decode prog_1_method_18_code 44 = .ok (.iload_n 2, 1)) rfl ?_
        refine g_if_neN (tgt := 52) (by decide +kernel : decode prog_1_method_18_code 45 = .ok (.ifCond .ne 7, 3)) (by decide) (by omega) (fun h45 => ?_) (fun h45 => ?_)
        · refine g_iconst (v := nI 0) (by decide +kernel : decode prog_1_method_18_code 52 = .ok (.iconst 0, 1)) (by decide) ?_
          refine g_callVV [.int (nI o), .int (nI 0)] (by decide +kernel : decode prog_1_method_18_code 53 = .ok (.invokevirtual 147, 3)) lk_LS_147 (n_hide0 h (o := o) (by omega)) rfl rfl rfl rfl (Nat.le_of_ble_eq_true rfl) (Nat.le_of_ble_eq_true rfl) (fun s53 h53 => ?_)
          have g53 := h53
          refine g_iload_n (by decide +kernel : decode prog_1_method_18_code 56 = .ok (.iload_n 3, 1)) rfl ?_
          exact g_iret hR (by decide +kernel : decode prog_1_method_18_code 57 = .ok (.ireturn, 1)) rfl ⟨_, rfl, ⟨by first | (simp only [seekV, pz_of h.i ho5, rg_of ha14 hb14, q27]; done) | (simp only [seekV, pz_of h.i ho5, rg_of ha14 hb14, q27]; rfl), by simp only [seekT, pz_of h.i ho5, rg_of ha14 hb14, q27]; rw [show 1 - v = 0 by omega]; exact g53⟩⟩
        · refine g_iconst (v := nI 1) (by decide +kernel : decode prog_1_method_18_code 48 = .ok (.iconst 1, 1)) (by decide) ?_
          refine g_goto (tgt := 53) (by decide +kernel : decode prog_1_method_18_code 49 = .ok (.goto 4, 3)) (by decide) ?_
          refine g_callVV [.int (nI o), .int (nI 1)] (by decide +kernel : decode prog_1_method_18_code 53 = .ok (.invokevirtual 147, 3)) lk_LS_147 (n_hide1 h (o := o) (by omega)) rfl rfl rfl rfl (Nat.le_of_ble_eq_true rfl) (Nat.le_of_ble_eq_true rfl) (fun s53 h53 => ?_)
          have g53 := h53
          refine g_iload_n (by decide +kernel : decode prog_1_method_18_code 56 = .ok (.iload_n 3, 1)) rfl ?_
          exact g_iret hR (by decide +kernel : decode prog_1_method_18_code 57 = .ok (.ireturn, 1)) rfl ⟨_, rfl, ⟨by first | (simp only [seekV, pz_of h.i ho5, rg_of ha14 hb14, q27]; done) | (simp only [seekV, pz_of h.i ho5, rg_of ha14 hb14, q27]; rfl), by simp only [seekT, pz_of h.i ho5, rg_of ha14 hb14, q27]; rw [show 1 - v = 1 by omega]; exact g53⟩⟩
      · have e27 := e27.symm; subst e27
        refine g_if_eqN (tgt := 37) (by decide +kernel : decode prog_1_method_18_code 30 = .ok (.ifCond .eq 7, 3)) (by decide) (by decide) (fun _ => ?_) (fun h => False.elim (by revert h; decide))
        refine g_iconst (v := nI 1) (by decide +kernel : decode prog_1_method_18_code 37 = .ok (.iconst 1, 1)) (by decide) ?_
        refine g_istore_n (L' := [some (.ref 0), some (.int (nI o)), some (.int (nI v)), some (.int (nI 1))]) (by decide +kernel : decode prog_1_method_18_code 38 = .ok (.istore_n 3, 1)) (Nat.le_of_ble_eq_true rfl) rfl ?_
        refine g_aload_n (by decide +kernel : decode prog_1_method_18_code 39 = .ok (.aload_n 0, 1)) rfl ?_
        refine g_getR (by decide +kernel : decode prog_1_method_18_code 40 = .ok (.getfield 20, 3)) fl_LS_20 rfl rfl ?_
        refine g_iload_n (by decide +kernel : decode prog_1_method_18_code 43 = .ok (.iload_n 1, 1)) rfl ?_
        refine g_iload_n (by decide +kernel : decode prog_1_method_18_code 44 = .ok (.iload_n 2, 1)) rfl ?_
        refine g_if_neN (tgt := 52) (by decide +kernel : decode prog_1_method_18_code 45 = .ok (.ifCond .ne 7, 3)) (by decide) (by omega) (fun h45 => ?_) (fun h45 => ?_)
        · refine g_iconst (v := nI 0) (by decide +kernel : decode prog_1_method_18_code 52 = .ok (.iconst 0, 1)) (by decide) ?_
          refine g_callVV [.int (nI o), .int (nI 0)] (by decide +kernel : decode prog_1_method_18_code 53 = .ok (.invokevirtual 147, 3)) lk_LS_147 (n_hide0 h (o := o) (by omega)) rfl rfl rfl rfl (Nat.le_of_ble_eq_true rfl) (Nat.le_of_ble_eq_true rfl) (fun s53 h53 => ?_)
          have g53 := h53
          refine g_iload_n (by decide +kernel : decode prog_1_method_18_code 56 = .ok (.iload_n 3, 1)) rfl ?_
          exact g_iret hR (by decide +kernel : decode prog_1_method_18_code 57 = .ok (.ireturn, 1)) rfl ⟨_, rfl, ⟨by first | (simp only [seekV, pz_of h.i ho5, rg_of ha14 hb14, nh0 h.i (by omega) q27]; done) | (simp only [seekV, pz_of h.i ho5, rg_of ha14 hb14, nh0 h.i (by omega) q27]; rfl), by simp only [seekT, pz_of h.i ho5, rg_of ha14 hb14, nh0 h.i (by omega) q27]; rw [show 1 - v = 0 by omega]; exact g53⟩⟩
        · refine g_iconst (v := nI 1) (by decide +kernel : decode prog_1_method_18_code 48 = .ok (.iconst 1, 1)) (by decide) ?_
          refine g_goto (tgt := 53) (by decide +kernel : decode prog_1_method_18_code 49 = .ok (.goto 4, 3)) (by decide) ?_
          refine g_callVV [.int (nI o), .int (nI 1)] (by decide +kernel : decode prog_1_method_18_code 53 = .ok (.invokevirtual 147, 3)) lk_LS_147 (n_hide1 h (o := o) (by omega)) rfl rfl rfl rfl (Nat.le_of_ble_eq_true rfl) (Nat.le_of_ble_eq_true rfl) (fun s53 h53 => ?_)
          have g53 := h53
          refine g_iload_n (by decide +kernel : decode prog_1_method_18_code 56 = .ok (.iload_n 3, 1)) rfl ?_
          exact g_iret hR (by decide +kernel : decode prog_1_method_18_code 57 = .ok (.ireturn, 1)) rfl ⟨_, rfl, ⟨by first | (simp only [seekV, pz_of h.i ho5, rg_of ha14 hb14, nh0 h.i (by omega) q27]; done) | (simp only [seekV, pz_of h.i ho5, rg_of ha14 hb14, nh0 h.i (by omega) q27]; rfl), by simp only [seekT, pz_of h.i ho5, rg_of ha14 hb14, nh0 h.i (by omega) q27]; rw [show 1 - v = 1 by omega]; exact g53⟩⟩
    · have e14 := e14.symm; subst e14
      refine g_if_neN (tgt := 22) (by decide +kernel : decode prog_1_method_18_code 17 = .ok (.ifCond .ne 5, 3)) (by decide) (by decide) (fun h => False.elim (by revert h; decide)) (fun _ => ?_)
      refine g_iconst (v := (-1)) (by decide +kernel : decode prog_1_method_18_code 20 = .ok (.iconst (-1), 1)) (by decide) ?_
      exact g_iret hR (by decide +kernel : decode prog_1_method_18_code 21 = .ok (.ireturn, 1)) rfl ⟨_, rfl, ⟨by first | (simp only [seekV, pz_of h.i ho5, rg_none n14]; done) | (simp only [seekV, pz_of h.i ho5, rg_none n14]; rfl), by simp only [seekT, pz_of h.i ho5, rg_none n14]; exact h⟩⟩
  · have e5 := e5.symm; subst e5
    refine g_if_eqN (tgt := 20) (by decide +kernel : decode prog_1_method_18_code 8 = .ok (.ifCond .eq 12, 3)) (by decide) (by decide) (fun _ => ?_) (fun h => False.elim (by revert h; decide))
    refine g_iconst (v := (-1)) (by decide +kernel : decode prog_1_method_18_code 20 = .ok (.iconst (-1), 1)) (by decide) ?_
    exact g_iret hR (by decide +kernel : decode prog_1_method_18_code 21 = .ok (.ireturn, 1)) rfl ⟨_, rfl, ⟨by first | (simp only [seekV, pz_none h.i n5]; done) | (simp only [seekV, pz_none h.i n5]; rfl), by simp only [seekT, pz_none h.i n5]; exact h⟩⟩
set_option maxRecDepth 20000 in
theorem k_place {σ τ : Store} {f : Row} (h : RX σ τ f) (x y : Int32) : Ct ΛC mt_LS_place 2 [.ref 0, .int x, .int y] σ (cP τ (placeV f x y) f) := by
  refine Ct.of (by decide) (Nat.le_of_ble_eq_true rfl) (fun X hR => ?_)
  show G (ΛC, mt_LS_place, 2) X σ [some (.ref 0), some (.int x), some (.int y)] [] 0
  have hn8 := h.n8
  have hm9 := inv_m256 h.i
  refine g_iload_n (by decide +kernel : decode prog_1_method_19_code 0 = .ok (.iload_n 1, 1)) rfl ?_
  refine g_callSI [.int x] (by decide +kernel : decode prog_1_method_19_code 1 = .ok (.invokestatic 109, 3)) lk_LS_109 (k_isPlace _ x) rfl rfl (Nat.le_of_ble_eq_true rfl) (Nat.le_of_ble_eq_true rfl) (fun r1 s1 h1 => ?_)
  rcases h1 with ⟨e1, ⟨rfl, p, ha1, hb1, rfl⟩ | ⟨rfl, n1⟩⟩
  · have e1 := e1.symm; subst e1
    refine g_if_neN (tgt := 9) (by decide +kernel : decode prog_1_method_19_code 4 = .ok (.ifCond .ne 5, 3)) (by decide) (by decide) (fun _ => ?_) (fun h => False.elim (by revert h; decide))
    refine g_iload_n (by decide +kernel : decode prog_1_method_19_code 9 = .ok (.iload_n 2, 1)) rfl ?_
    rcases sw_in y 3 (by decide) with ⟨j, hj, rfl⟩ | ⟨ho, hno⟩
    · rcases (show j = 0 ∨ j = 1 ∨ j = 2 by omega) with rfl | rfl | rfl
      · refine g_tableIn (x := nI 0) (off := 26) (tgt := 36) (by decide +kernel : decode prog_1_method_19_code 10 = .ok (.tableswitch 65 0 2 #[26, 36, 45], 26)) (by decide) (by decide) rfl (by decide) ?_
        refine g_aload_n (by decide +kernel : decode prog_1_method_19_code 36 = .ok (.aload_n 0, 1)) rfl ?_
        refine g_getR (by decide +kernel : decode prog_1_method_19_code 37 = .ok (.getfield 20, 3)) fl_LS_20 rfl rfl ?_
        refine g_getR (by decide +kernel : decode prog_1_method_19_code 40 = .ok (.getfield 151, 3)) fl_LS_151 rfl rfl ?_
        refine g_iload_n (by decide +kernel : decode prog_1_method_19_code 43 = .ok (.iload_n 1, 1)) rfl ?_
        refine g_iaload (a := p) (by decide +kernel : decode prog_1_method_19_code 44 = .ok (.iaload, 1)) rfl rfl (by omega) (by decide) ?_
        refine g_top (w := f (7 + p)) (h.n.c (by omega)) ?_
        exact g_iret hR (by decide +kernel : decode prog_1_method_19_code 45 = .ok (.ireturn, 1)) rfl ⟨_, rfl, ⟨by first | (simp only [placeV, rg_of ha1 hb1, rg_yes 2 0]; done) | (simp only [placeV, rg_of ha1 hb1, rg_yes 2 0]; rfl), h⟩⟩
      · refine g_tableIn (x := nI 1) (off := 36) (tgt := 46) (by decide +kernel : decode prog_1_method_19_code 10 = .ok (.tableswitch 65 0 2 #[26, 36, 45], 26)) (by decide) (by decide) rfl (by decide) ?_
        refine g_aload_n (by decide +kernel : decode prog_1_method_19_code 46 = .ok (.aload_n 0, 1)) rfl ?_
        refine g_getR (by decide +kernel : decode prog_1_method_19_code 47 = .ok (.getfield 20, 3)) fl_LS_20 rfl rfl ?_
        refine g_iload_n (by decide +kernel : decode prog_1_method_19_code 50 = .ok (.iload_n 1, 1)) rfl ?_
        refine g_callVI [.int (nI p)] (by decide +kernel : decode prog_1_method_19_code 51 = .ok (.invokevirtual 154, 3)) lk_LS_154 (n_peopleAt h.n (p := p) (by omega)) rfl rfl rfl rfl (Nat.le_of_ble_eq_true rfl) (Nat.le_of_ble_eq_true rfl) (fun r51 s51 h51 => ?_)
        obtain ⟨rfl, e51⟩ := h51
        have e51 := e51.symm; subst e51
        exact g_iret hR (by decide +kernel : decode prog_1_method_19_code 54 = .ok (.ireturn, 1)) rfl ⟨_, rfl, ⟨by first | (simp only [placeV, rg_of ha1 hb1, rg_yes 2 1]; done) | (simp only [placeV, rg_of ha1 hb1, rg_yes 2 1]; rfl), h⟩⟩
      · refine g_tableIn (x := nI 2) (off := 45) (tgt := 55) (by decide +kernel : decode prog_1_method_19_code 10 = .ok (.tableswitch 65 0 2 #[26, 36, 45], 26)) (by decide) (by decide) rfl (by decide) ?_
        refine g_aload_n (by decide +kernel : decode prog_1_method_19_code 55 = .ok (.aload_n 0, 1)) rfl ?_
        refine g_getR (by decide +kernel : decode prog_1_method_19_code 56 = .ok (.getfield 20, 3)) fl_LS_20 rfl rfl ?_
        refine g_iload_n (by decide +kernel : decode prog_1_method_19_code 59 = .ok (.iload_n 1, 1)) rfl ?_
        refine g_callVI [.int (nI p)] (by decide +kernel : decode prog_1_method_19_code 60 = .ok (.invokevirtual 154, 3)) lk_LS_154 (n_peopleAt h.n (p := p) (by omega)) rfl rfl rfl rfl (Nat.le_of_ble_eq_true rfl) (Nat.le_of_ble_eq_true rfl) (fun r60 s60 h60 => ?_)
        obtain ⟨rfl, e60⟩ := h60
        have e60 := e60.symm; subst e60
        refine g_aload_n (by decide +kernel : decode prog_1_method_19_code 63 = .ok (.aload_n 0, 1)) rfl ?_
        refine g_getR (by decide +kernel : decode prog_1_method_19_code 64 = .ok (.getfield 20, 3)) fl_LS_20 rfl rfl ?_
        refine g_getI (by decide +kernel : decode prog_1_method_19_code 67 = .ok (.getfield 157, 3)) fl_LS_157.get rfl rfl ?_
        refine g_top (w := nI (msk f (nn f))) (h.n.m) ?_
        refine g_iand (by decide +kernel : decode prog_1_method_19_code 70 = .ok (.iand, 1)) ?_
        refine g_top (w := nI (atm f p (nn f) &&& msk f (nn f))) (nI_and _ _) ?_
        refine g_callSI [.int (nI (atm f p (nn f) &&& msk f (nn f)))] (by decide +kernel : decode prog_1_method_19_code 71 = .ok (.invokestatic 160, 3)) lk_LS_160 (m_bitCount ΛC _ (Nat.lt_of_le_of_lt Nat.and_le_right (by omega))) rfl rfl (Nat.le_of_ble_eq_true rfl) (Nat.le_of_ble_eq_true rfl) (fun r71 s71 h71 => ?_)
        obtain ⟨rfl, e71⟩ := h71
        have e71 := e71.symm; subst e71
        exact g_iret hR (by decide +kernel : decode prog_1_method_19_code 74 = .ok (.ireturn, 1)) rfl ⟨_, rfl, ⟨by first | (simp only [placeV, rg_of ha1 hb1, rg_yes 2 2]; done) | (simp only [placeV, rg_of ha1 hb1, rg_yes 2 2]; rfl), h⟩⟩
    · refine g_tableOut (tgt := 75) (by decide +kernel : decode prog_1_method_19_code 10 = .ok (.tableswitch 65 0 2 #[26, 36, 45], 26)) (by omega) (by decide) ?_
      refine g_iconst (v := (-1)) (by decide +kernel : decode prog_1_method_19_code 75 = .ok (.iconst (-1), 1)) (by decide) ?_
      exact g_iret hR (by decide +kernel : decode prog_1_method_19_code 76 = .ok (.ireturn, 1)) rfl ⟨_, rfl, ⟨by first | (simp only [placeV, rg_of ha1 hb1, rg_no hno]; done) | (simp only [placeV, rg_of ha1 hb1, rg_no hno]; rfl), h⟩⟩
  · have e1 := e1.symm; subst e1
    refine g_if_neN (tgt := 9) (by decide +kernel : decode prog_1_method_19_code 4 = .ok (.ifCond .ne 5, 3)) (by decide) (by decide) (fun h => False.elim (by revert h; decide)) (fun _ => ?_)
    refine g_iconst (v := (-1)) (by decide +kernel : decode prog_1_method_19_code 7 = .ok (.iconst (-1), 1)) (by decide) ?_
    exact g_iret hR (by decide +kernel : decode prog_1_method_19_code 8 = .ok (.ireturn, 1)) rfl ⟨_, rfl, ⟨by first | (simp only [placeV, rg_none n1]; done) | (simp only [placeV, rg_none n1]; rfl), h⟩⟩
set_option maxRecDepth 20000 in
theorem k_cover {σ τ : Store} {f : Row} (h : RX σ τ f) (x y : Int32) : Ct ΛC mt_LS_cover 2 [.ref 0, .int x, .int y] σ (cP τ (coverV f x y) (coverT f x y)) := by
  refine Ct.of (by decide) (Nat.le_of_ble_eq_true rfl) (fun X hR => ?_)
  show G (ΛC, mt_LS_cover, 2) X σ [some (.ref 0), some (.int x), some (.int y), none] [] 0
  have hn8 := h.n8
  refine g_iload_n (by decide +kernel : decode prog_1_method_20_code 0 = .ok (.iload_n 1, 1)) rfl ?_
  refine g_callSI [.int x] (by decide +kernel : decode prog_1_method_20_code 1 = .ok (.invokestatic 109, 3)) lk_LS_109 (k_isPlace _ x) rfl rfl (Nat.le_of_ble_eq_true rfl) (Nat.le_of_ble_eq_true rfl) (fun r1 s1 h1 => ?_)
  rcases h1 with ⟨e1, ⟨rfl, p, ha1, hb1, rfl⟩ | ⟨rfl, n1⟩⟩
  · have e1 := e1.symm; subst e1
    refine g_if_eqN (tgt := 17) (by decide +kernel : decode prog_1_method_20_code 4 = .ok (.ifCond .eq 13, 3)) (by decide) (by decide) (fun h => False.elim (by revert h; decide)) (fun _ => ?_)
    refine g_iload_n (by decide +kernel : decode prog_1_method_20_code 7 = .ok (.iload_n 2, 1)) rfl ?_
    refine g_iconst (v := nI 0) (by decide +kernel : decode prog_1_method_20_code 8 = .ok (.iconst 0, 1)) (by decide) ?_
    refine g_bipush (v := nI 9) (by decide +kernel : decode prog_1_method_20_code 9 = .ok (.bipush 9, 2)) (by decide) ?_
    refine g_callSI [.int y, .int (nI 0), .int (nI 9)] (by decide +kernel : decode prog_1_method_20_code 11 = .ok (.invokestatic 62, 3)) lk_LS_62 (k_within _ y 0 9) rfl rfl (Nat.le_of_ble_eq_true rfl) (Nat.le_of_ble_eq_true rfl) (fun r11 s11 h11 => ?_)
    rcases h11 with ⟨e11, ⟨rfl, v, ha11, hb11, rfl⟩ | ⟨rfl, n11⟩⟩
    · have e11 := e11.symm; subst e11
      refine g_if_neN (tgt := 19) (by decide +kernel : decode prog_1_method_20_code 14 = .ok (.ifCond .ne 5, 3)) (by decide) (by decide) (fun _ => ?_) (fun h => False.elim (by revert h; decide))
      refine g_aload_n (by decide +kernel : decode prog_1_method_20_code 19 = .ok (.aload_n 0, 1)) rfl ?_
      refine g_getR (by decide +kernel : decode prog_1_method_20_code 20 = .ok (.getfield 20, 3)) fl_LS_20 rfl rfl ?_
      refine g_getR (by decide +kernel : decode prog_1_method_20_code 23 = .ok (.getfield 151, 3)) fl_LS_151 rfl rfl ?_
      refine g_iload_n (by decide +kernel : decode prog_1_method_20_code 26 = .ok (.iload_n 1, 1)) rfl ?_
      refine g_iaload (a := p) (by decide +kernel : decode prog_1_method_20_code 27 = .ok (.iaload, 1)) rfl rfl (by omega) (by decide) ?_
      refine g_top (w := f (7 + p)) (h.n.c (by omega)) ?_
      refine g_istore_n (L' := [some (.ref 0), some (.int (nI p)), some (.int (nI v)), some (.int (f (7 + p)))]) (by decide +kernel : decode prog_1_method_20_code 28 = .ok (.istore_n 3, 1)) (Nat.le_of_ble_eq_true rfl) rfl ?_
      refine g_aload_n (by decide +kernel : decode prog_1_method_20_code 29 = .ok (.aload_n 0, 1)) rfl ?_
      refine g_getR (by decide +kernel : decode prog_1_method_20_code 30 = .ok (.getfield 20, 3)) fl_LS_20 rfl rfl ?_
      refine g_getR (by decide +kernel : decode prog_1_method_20_code 33 = .ok (.getfield 151, 3)) fl_LS_151 rfl rfl ?_
      refine g_iload_n (by decide +kernel : decode prog_1_method_20_code 36 = .ok (.iload_n 1, 1)) rfl ?_
      refine g_iload_n (by decide +kernel : decode prog_1_method_20_code 37 = .ok (.iload_n 2, 1)) rfl ?_
      refine g_iastore (a := p) (by decide +kernel : decode prog_1_method_20_code 38 = .ok (.iastore, 1)) rfl rfl (by omega) (by decide) ?_
      have p39 := h.wc (i := p) (v := (nI v)) (by omega) (Rng.of (by omega))
      refine g_iload_n (by decide +kernel : decode prog_1_method_20_code 39 = .ok (.iload_n 3, 1)) rfl ?_
      exact g_iret hR (by decide +kernel : decode prog_1_method_20_code 40 = .ok (.ireturn, 1)) rfl ⟨_, rfl, ⟨by first | (simp only [coverV, rg_of ha1 hb1, rg_of ha11 hb11]; done) | (simp only [coverV, rg_of ha1 hb1, rg_of ha11 hb11]; rfl), by simp only [coverT, rg_of ha1 hb1, rg_of ha11 hb11]; exact p39⟩⟩
    · have e11 := e11.symm; subst e11
      refine g_if_neN (tgt := 19) (by decide +kernel : decode prog_1_method_20_code 14 = .ok (.ifCond .ne 5, 3)) (by decide) (by decide) (fun h => False.elim (by revert h; decide)) (fun _ => ?_)
      refine g_iconst (v := (-1)) (by decide +kernel : decode prog_1_method_20_code 17 = .ok (.iconst (-1), 1)) (by decide) ?_
      exact g_iret hR (by decide +kernel : decode prog_1_method_20_code 18 = .ok (.ireturn, 1)) rfl ⟨_, rfl, ⟨by first | (simp only [coverV, rg_of ha1 hb1, rg_none n11]; done) | (simp only [coverV, rg_of ha1 hb1, rg_none n11]; rfl), by simp only [coverT, rg_of ha1 hb1, rg_none n11]; exact h⟩⟩
  · have e1 := e1.symm; subst e1
    refine g_if_eqN (tgt := 17) (by decide +kernel : decode prog_1_method_20_code 4 = .ok (.ifCond .eq 13, 3)) (by decide) (by decide) (fun _ => ?_) (fun h => False.elim (by revert h; decide))
    refine g_iconst (v := (-1)) (by decide +kernel : decode prog_1_method_20_code 17 = .ok (.iconst (-1), 1)) (by decide) ?_
    exact g_iret hR (by decide +kernel : decode prog_1_method_20_code 18 = .ok (.ireturn, 1)) rfl ⟨_, rfl, ⟨by first | (simp only [coverV, rg_none n1]; done) | (simp only [coverV, rg_none n1]; rfl), by simp only [coverT, rg_none n1]; exact h⟩⟩
set_option maxRecDepth 20000 in
theorem k_years {σ τ : Store} {f : Row} (h : RX σ τ f) (x : Int32) : Ct ΛC mt_LS_years 5 [.ref 0, .int x] σ (cP τ (yearsV f x) (yearsT f x)) := by
  refine Ct.of (by decide) (Nat.le_of_ble_eq_true rfl) (fun X hR => ?_)
  show G (ΛC, mt_LS_years, 5) X σ [some (.ref 0), some (.int x)] [] 0
  have hn8 := h.n8
  refine g_iload_n (by decide +kernel : decode prog_1_method_21_code 0 = .ok (.iload_n 1, 1)) rfl ?_
  refine g_iconst (v := nI 1) (by decide +kernel : decode prog_1_method_21_code 1 = .ok (.iconst 1, 1)) (by decide) ?_
  refine g_bipush (v := nI 60) (by decide +kernel : decode prog_1_method_21_code 2 = .ok (.bipush 60, 2)) (by decide) ?_
  refine g_callSI [.int x, .int (nI 1), .int (nI 60)] (by decide +kernel : decode prog_1_method_21_code 4 = .ok (.invokestatic 62, 3)) lk_LS_62 (k_within _ x 1 60) rfl rfl (Nat.le_of_ble_eq_true rfl) (Nat.le_of_ble_eq_true rfl) (fun r4 s4 h4 => ?_)
  rcases h4 with ⟨e4, ⟨rfl, n, ha4, hb4, rfl⟩ | ⟨rfl, n4⟩⟩
  · have e4 := e4.symm; subst e4
    refine g_if_neN (tgt := 12) (by decide +kernel : decode prog_1_method_21_code 7 = .ok (.ifCond .ne 5, 3)) (by decide) (by decide) (fun _ => ?_) (fun h => False.elim (by revert h; decide))
    refine g_aload_n (by decide +kernel : decode prog_1_method_21_code 12 = .ok (.aload_n 0, 1)) rfl ?_
    refine g_getR (by decide +kernel : decode prog_1_method_21_code 13 = .ok (.getfield 20, 3)) fl_LS_20 rfl rfl ?_
    refine g_iload_n (by decide +kernel : decode prog_1_method_21_code 16 = .ok (.iload_n 1, 1)) rfl ?_
    refine g_sipush (v := nI 255) (by decide +kernel : decode prog_1_method_21_code 17 = .ok (.sipush 255, 3)) (by decide) ?_
    refine g_callVV [.int (nI n), .int (nI 255)] (by decide +kernel : decode prog_1_method_21_code 20 = .ok (.invokevirtual 165, 3)) lk_LS_165 (n_passYears h (m := 255) (n := n) (by decide) (by omega)) rfl rfl rfl rfl (Nat.le_of_ble_eq_true rfl) (Nat.le_of_ble_eq_true rfl) (fun s20 h20 => ?_)
    have g20 := h20
    refine g_aload_n (by decide +kernel : decode prog_1_method_21_code 23 = .ok (.aload_n 0, 1)) rfl ?_
    refine g_getR (by decide +kernel : decode prog_1_method_21_code 24 = .ok (.getfield 20, 3)) fl_LS_20 rfl rfl ?_
    refine g_callVI [] (by decide +kernel : decode prog_1_method_21_code 27 = .ok (.invokevirtual 169, 3)) lk_LS_169 (n_hiddenOnes g20.n) rfl rfl rfl rfl (Nat.le_of_ble_eq_true rfl) (Nat.le_of_ble_eq_true rfl) (fun r27 s27 h27 => ?_)
    obtain ⟨rfl, e27⟩ := h27
    have e27 := e27.symm; subst e27
    exact g_iret hR (by decide +kernel : decode prog_1_method_21_code 30 = .ok (.ireturn, 1)) rfl ⟨_, rfl, ⟨by first | (simp only [yearsV, rg_of ha4 hb4]; done) | (simp only [yearsV, rg_of ha4 hb4]; rfl), by simp only [yearsT, rg_of ha4 hb4]; exact g20⟩⟩
  · have e4 := e4.symm; subst e4
    refine g_if_neN (tgt := 12) (by decide +kernel : decode prog_1_method_21_code 7 = .ok (.ifCond .ne 5, 3)) (by decide) (by decide) (fun h => False.elim (by revert h; decide)) (fun _ => ?_)
    refine g_iconst (v := (-1)) (by decide +kernel : decode prog_1_method_21_code 10 = .ok (.iconst (-1), 1)) (by decide) ?_
    exact g_iret hR (by decide +kernel : decode prog_1_method_21_code 11 = .ok (.ireturn, 1)) rfl ⟨_, rfl, ⟨by first | (simp only [yearsV, rg_none n4]; done) | (simp only [yearsV, rg_none n4]; rfl), by simp only [yearsT, rg_none n4]; exact h⟩⟩
set_option maxRecDepth 20000 in
theorem k_seed {σ τ : Store} {f : Row} (h : RX σ τ f) (x : Int32) : Ct ΛC mt_LS_seed 0 [.ref 0, .int x] σ (cP τ (f 2) (upd f 2 x)) := by
  refine Ct.of (by decide) (Nat.le_of_ble_eq_true rfl) (fun X hR => ?_)
  show G (ΛC, mt_LS_seed, 0) X σ [some (.ref 0), some (.int x), none] [] 0
  have hn8 := h.n8
  refine g_aload_n (by decide +kernel : decode prog_1_method_22_code 0 = .ok (.aload_n 0, 1)) rfl ?_
  refine g_getR (by decide +kernel : decode prog_1_method_22_code 1 = .ok (.getfield 20, 3)) fl_LS_20 rfl rfl ?_
  refine g_getI (by decide +kernel : decode prog_1_method_22_code 4 = .ok (.getfield 84, 3)) fl_LS_84.get rfl rfl ?_
  refine g_top (w := f 2) (h.n.z) ?_
  refine g_istore_n (L' := [some (.ref 0), some (.int x), some (.int (f 2))]) (by decide +kernel : decode prog_1_method_22_code 7 = .ok (.istore_n 2, 1)) (Nat.le_of_ble_eq_true rfl) rfl ?_
  refine g_aload_n (by decide +kernel : decode prog_1_method_22_code 8 = .ok (.aload_n 0, 1)) rfl ?_
  refine g_getR (by decide +kernel : decode prog_1_method_22_code 9 = .ok (.getfield 20, 3)) fl_LS_20 rfl rfl ?_
  refine g_iload_n (by decide +kernel : decode prog_1_method_22_code 12 = .ok (.iload_n 1, 1)) rfl ?_
  refine g_putI (by decide +kernel : decode prog_1_method_22_code 13 = .ok (.putfield 84, 3)) fl_LS_84 rfl rfl ?_
  have p16 := h.wz x
  refine g_iload_n (by decide +kernel : decode prog_1_method_22_code 16 = .ok (.iload_n 2, 1)) rfl ?_
  exact g_iret hR (by decide +kernel : decode prog_1_method_22_code 17 = .ok (.ireturn, 1)) rfl ⟨_, rfl, ⟨rfl, p16⟩⟩
set_option maxRecDepth 20000 in
theorem k_year {σ τ : Store} {f : Row} (h : RX σ τ f)  : Ct ΛC mt_LS_year 5 [.ref 0] σ (cP τ (nI (hc (yearT f))) (yearT f)) := by
  refine Ct.of (by decide) (Nat.le_of_ble_eq_true rfl) (fun X hR => ?_)
  show G (ΛC, mt_LS_year, 5) X σ [some (.ref 0)] [] 0
  have hn8 := h.n8
  refine g_aload_n (by decide +kernel : decode prog_1_method_23_code 0 = .ok (.aload_n 0, 1)) rfl ?_
  refine g_getR (by decide +kernel : decode prog_1_method_23_code 1 = .ok (.getfield 20, 3)) fl_LS_20 rfl rfl ?_
  refine g_callVV [] (by decide +kernel : decode prog_1_method_23_code 4 = .ok (.invokevirtual 173, 3)) lk_LS_173 (n_passYearByDraws h) rfl rfl rfl rfl (Nat.le_of_ble_eq_true rfl) (Nat.le_of_ble_eq_true rfl) (fun s4 h4 => ?_)
  have g4 := h4
  refine g_aload_n (by decide +kernel : decode prog_1_method_23_code 7 = .ok (.aload_n 0, 1)) rfl ?_
  refine g_getR (by decide +kernel : decode prog_1_method_23_code 8 = .ok (.getfield 20, 3)) fl_LS_20 rfl rfl ?_
  refine g_callVI [] (by decide +kernel : decode prog_1_method_23_code 11 = .ok (.invokevirtual 169, 3)) lk_LS_169 (n_hiddenOnes g4.n) rfl rfl rfl rfl (Nat.le_of_ble_eq_true rfl) (Nat.le_of_ble_eq_true rfl) (fun r11 s11 h11 => ?_)
  obtain ⟨rfl, e11⟩ := h11
  have e11 := e11.symm; subst e11
  exact g_iret hR (by decide +kernel : decode prog_1_method_23_code 14 = .ok (.ireturn, 1)) rfl ⟨_, rfl, ⟨rfl, g4⟩⟩
def suF (R : Row) : Nat → Int32
  | 0 => nI 0
  | k + 1 => suF R k + R k
theorem suF_p {R f : Row} {w : Nat} : ∀ n, (∀ k, k < n → R k = f (19 + 6 * k + w)) → suF R n = smF f w n := by
  intro n
  induction n with
  | zero => intro _; rfl
  | succ n ih =>
    intro h
    show suF R n + R n = smF f w n + f (19 + 6 * n + w)
    rw [ih (fun k hk => h k (by omega)), h n (by omega)]
theorem suF_c {R f : Row} : ∀ n, (∀ k, k < n → R k = f (7 + k)) → suF R n = cvF f n := by
  intro n
  induction n with
  | zero => intro _; rfl
  | succ n ih =>
    intro h
    show suF R n + R n = cvF f n + f (7 + n)
    rw [ih (fun k hk => h k (by omega)), h n (by omega)]
set_option maxRecDepth 20000 in
theorem k_sum5_lp {X : CX} {σ : Store} {n : Nat} (hn : n ≤ 8) : ∀ (b9 k : Nat), k ≤ n → n - k < b9 → Rt (ΛC, mt_LS_sumOf, 0) (PF (suF (σ 5) n) σ) X → G (ΛC, mt_LS_sumOf, 0) X σ [some (.ref 5), some (.int (nI n)), some (.int (suF (σ 5) k)), some (.int (nI k))] [] 4 := by
  intro b9
  induction b9 with
  | zero => intro k hk hb hR; omega
  | succ b9 ih =>
  intro k hk hb hR
  refine g_iload_n (by decide +kernel : decode prog_1_method_26_code 4 = .ok (.iload_n 3, 1)) rfl ?_
  refine g_iload_n (by decide +kernel : decode prog_1_method_26_code 5 = .ok (.iload_n 1, 1)) rfl ?_
  refine g_icmp_geN (tgt := 27) (by decide +kernel : decode prog_1_method_26_code 6 = .ok (.if_icmp .ge 21, 3)) (by decide) (by omega) (by omega) (fun h6 => ?_) (fun h6 => ?_)
  · refine g_iload_n (by decide +kernel : decode prog_1_method_26_code 27 = .ok (.iload_n 2, 1)) rfl ?_
    have e9 : k = n := (by omega)
    subst e9
    exact g_iret hR (by decide +kernel : decode prog_1_method_26_code 28 = .ok (.ireturn, 1)) rfl ⟨_, rfl, rfl, rfl⟩
  · refine g_iload_n (by decide +kernel : decode prog_1_method_26_code 9 = .ok (.iload_n 3, 1)) rfl ?_
    refine g_aload_n (by decide +kernel : decode prog_1_method_26_code 10 = .ok (.aload_n 0, 1)) rfl ?_
    refine g_alen (n := 8) (by decide +kernel : decode prog_1_method_26_code 11 = .ok (.arraylength, 1)) rfl ?_
    refine g_icmp_geN (tgt := 27) (by decide +kernel : decode prog_1_method_26_code 12 = .ok (.if_icmp .ge 15, 3)) (by decide) (by omega) (by decide) (fun h12 => ?_) (fun h12 => ?_)
    · refine g_iload_n (by decide +kernel : decode prog_1_method_26_code 27 = .ok (.iload_n 2, 1)) rfl ?_
      have e9 : k = n := (by omega)
      subst e9
      exact g_iret hR (by decide +kernel : decode prog_1_method_26_code 28 = .ok (.ireturn, 1)) rfl ⟨_, rfl, rfl, rfl⟩
    · refine g_iload_n (by decide +kernel : decode prog_1_method_26_code 15 = .ok (.iload_n 2, 1)) rfl ?_
      refine g_aload_n (by decide +kernel : decode prog_1_method_26_code 16 = .ok (.aload_n 0, 1)) rfl ?_
      refine g_iload_n (by decide +kernel : decode prog_1_method_26_code 17 = .ok (.iload_n 3, 1)) rfl ?_
      refine g_iaload (a := k) (by decide +kernel : decode prog_1_method_26_code 18 = .ok (.iaload, 1)) rfl rfl (by omega) (by decide) ?_
      refine g_iadd (by decide +kernel : decode prog_1_method_26_code 19 = .ok (.iadd, 1)) ?_
      refine g_istore_n (L' := [some (.ref 5), some (.int (nI n)), some (.int ((suF (σ 5) k) + (σ 5 k))), some (.int (nI k))]) (by decide +kernel : decode prog_1_method_26_code 20 = .ok (.istore_n 2, 1)) (Nat.le_of_ble_eq_true rfl) rfl ?_
      refine g_iincN (n := 1) (L' := [some (.ref 5), some (.int (nI n)), some (.int ((suF (σ 5) k) + (σ 5 k))), some (.int (nI (k + 1)))]) (by decide +kernel : decode prog_1_method_26_code 21 = .ok (.iinc 3 1, 3)) rfl (by decide) (Nat.le_of_ble_eq_true rfl) rfl ?_
      refine g_goto (tgt := 4) (by decide +kernel : decode prog_1_method_26_code 24 = .ok (.goto (-20), 3)) (by decide) ?_
      exact ih (k + 1) (by omega) (by omega) hR
set_option maxRecDepth 20000 in
theorem k_sum5 (σ : Store) {n : Nat} (hn : n ≤ 8) : Ct ΛC mt_LS_sumOf 0 [.ref 5, .int (nI n)] σ (PF (suF (σ 5) n) σ) := by
  refine Ct.of (by decide) (Nat.le_of_ble_eq_true rfl) (fun X hR => ?_)
  show G (ΛC, mt_LS_sumOf, 0) X σ [some (.ref 5), some (.int (nI n)), none, none] [] 0
  refine g_iconst (v := nI 0) (by decide +kernel : decode prog_1_method_26_code 0 = .ok (.iconst 0, 1)) (by decide) ?_
  refine g_istore_n (L' := [some (.ref 5), some (.int (nI n)), some (.int (nI 0)), none]) (by decide +kernel : decode prog_1_method_26_code 1 = .ok (.istore_n 2, 1)) (Nat.le_of_ble_eq_true rfl) rfl ?_
  refine g_iconst (v := nI 0) (by decide +kernel : decode prog_1_method_26_code 2 = .ok (.iconst 0, 1)) (by decide) ?_
  refine g_istore_n (L' := [some (.ref 5), some (.int (nI n)), some (.int (nI 0)), some (.int (nI 0))]) (by decide +kernel : decode prog_1_method_26_code 3 = .ok (.istore_n 3, 1)) (Nat.le_of_ble_eq_true rfl) rfl ?_
  exact k_sum5_lp hn (n + 1) 0 (by omega) (by omega) hR
set_option maxRecDepth 20000 in
theorem k_sum8_lp {X : CX} {σ : Store} {n : Nat} (hn : n ≤ 8) : ∀ (b9 k : Nat), k ≤ n → n - k < b9 → Rt (ΛC, mt_LS_sumOf, 0) (PF (suF (σ 8) n) σ) X → G (ΛC, mt_LS_sumOf, 0) X σ [some (.ref 8), some (.int (nI n)), some (.int (suF (σ 8) k)), some (.int (nI k))] [] 4 := by
  intro b9
  induction b9 with
  | zero => intro k hk hb hR; omega
  | succ b9 ih =>
  intro k hk hb hR
  refine g_iload_n (by decide +kernel : decode prog_1_method_26_code 4 = .ok (.iload_n 3, 1)) rfl ?_
  refine g_iload_n (by decide +kernel : decode prog_1_method_26_code 5 = .ok (.iload_n 1, 1)) rfl ?_
  refine g_icmp_geN (tgt := 27) (by decide +kernel : decode prog_1_method_26_code 6 = .ok (.if_icmp .ge 21, 3)) (by decide) (by omega) (by omega) (fun h6 => ?_) (fun h6 => ?_)
  · refine g_iload_n (by decide +kernel : decode prog_1_method_26_code 27 = .ok (.iload_n 2, 1)) rfl ?_
    have e9 : k = n := (by omega)
    subst e9
    exact g_iret hR (by decide +kernel : decode prog_1_method_26_code 28 = .ok (.ireturn, 1)) rfl ⟨_, rfl, rfl, rfl⟩
  · refine g_iload_n (by decide +kernel : decode prog_1_method_26_code 9 = .ok (.iload_n 3, 1)) rfl ?_
    refine g_aload_n (by decide +kernel : decode prog_1_method_26_code 10 = .ok (.aload_n 0, 1)) rfl ?_
    refine g_alen (n := 8) (by decide +kernel : decode prog_1_method_26_code 11 = .ok (.arraylength, 1)) rfl ?_
    refine g_icmp_geN (tgt := 27) (by decide +kernel : decode prog_1_method_26_code 12 = .ok (.if_icmp .ge 15, 3)) (by decide) (by omega) (by decide) (fun h12 => ?_) (fun h12 => ?_)
    · refine g_iload_n (by decide +kernel : decode prog_1_method_26_code 27 = .ok (.iload_n 2, 1)) rfl ?_
      have e9 : k = n := (by omega)
      subst e9
      exact g_iret hR (by decide +kernel : decode prog_1_method_26_code 28 = .ok (.ireturn, 1)) rfl ⟨_, rfl, rfl, rfl⟩
    · refine g_iload_n (by decide +kernel : decode prog_1_method_26_code 15 = .ok (.iload_n 2, 1)) rfl ?_
      refine g_aload_n (by decide +kernel : decode prog_1_method_26_code 16 = .ok (.aload_n 0, 1)) rfl ?_
      refine g_iload_n (by decide +kernel : decode prog_1_method_26_code 17 = .ok (.iload_n 3, 1)) rfl ?_
      refine g_iaload (a := k) (by decide +kernel : decode prog_1_method_26_code 18 = .ok (.iaload, 1)) rfl rfl (by omega) (by decide) ?_
      refine g_iadd (by decide +kernel : decode prog_1_method_26_code 19 = .ok (.iadd, 1)) ?_
      refine g_istore_n (L' := [some (.ref 8), some (.int (nI n)), some (.int ((suF (σ 8) k) + (σ 8 k))), some (.int (nI k))]) (by decide +kernel : decode prog_1_method_26_code 20 = .ok (.istore_n 2, 1)) (Nat.le_of_ble_eq_true rfl) rfl ?_
      refine g_iincN (n := 1) (L' := [some (.ref 8), some (.int (nI n)), some (.int ((suF (σ 8) k) + (σ 8 k))), some (.int (nI (k + 1)))]) (by decide +kernel : decode prog_1_method_26_code 21 = .ok (.iinc 3 1, 3)) rfl (by decide) (Nat.le_of_ble_eq_true rfl) rfl ?_
      refine g_goto (tgt := 4) (by decide +kernel : decode prog_1_method_26_code 24 = .ok (.goto (-20), 3)) (by decide) ?_
      exact ih (k + 1) (by omega) (by omega) hR
set_option maxRecDepth 20000 in
theorem k_sum8 (σ : Store) {n : Nat} (hn : n ≤ 8) : Ct ΛC mt_LS_sumOf 0 [.ref 8, .int (nI n)] σ (PF (suF (σ 8) n) σ) := by
  refine Ct.of (by decide) (Nat.le_of_ble_eq_true rfl) (fun X hR => ?_)
  show G (ΛC, mt_LS_sumOf, 0) X σ [some (.ref 8), some (.int (nI n)), none, none] [] 0
  refine g_iconst (v := nI 0) (by decide +kernel : decode prog_1_method_26_code 0 = .ok (.iconst 0, 1)) (by decide) ?_
  refine g_istore_n (L' := [some (.ref 8), some (.int (nI n)), some (.int (nI 0)), none]) (by decide +kernel : decode prog_1_method_26_code 1 = .ok (.istore_n 2, 1)) (Nat.le_of_ble_eq_true rfl) rfl ?_
  refine g_iconst (v := nI 0) (by decide +kernel : decode prog_1_method_26_code 2 = .ok (.iconst 0, 1)) (by decide) ?_
  refine g_istore_n (L' := [some (.ref 8), some (.int (nI n)), some (.int (nI 0)), some (.int (nI 0))]) (by decide +kernel : decode prog_1_method_26_code 3 = .ok (.istore_n 3, 1)) (Nat.le_of_ble_eq_true rfl) rfl ?_
  exact k_sum8_lp hn (n + 1) 0 (by omega) (by omega) hR
set_option maxRecDepth 20000 in
theorem k_sum3_lp {X : CX} {σ : Store} {n : Nat} (hn : n ≤ 12) : ∀ (b9 k : Nat), k ≤ n → n - k < b9 → Rt (ΛC, mt_LS_sumOf, 0) (PF (suF (σ 3) n) σ) X → G (ΛC, mt_LS_sumOf, 0) X σ [some (.ref 3), some (.int (nI n)), some (.int (suF (σ 3) k)), some (.int (nI k))] [] 4 := by
  intro b9
  induction b9 with
  | zero => intro k hk hb hR; omega
  | succ b9 ih =>
  intro k hk hb hR
  refine g_iload_n (by decide +kernel : decode prog_1_method_26_code 4 = .ok (.iload_n 3, 1)) rfl ?_
  refine g_iload_n (by decide +kernel : decode prog_1_method_26_code 5 = .ok (.iload_n 1, 1)) rfl ?_
  refine g_icmp_geN (tgt := 27) (by decide +kernel : decode prog_1_method_26_code 6 = .ok (.if_icmp .ge 21, 3)) (by decide) (by omega) (by omega) (fun h6 => ?_) (fun h6 => ?_)
  · refine g_iload_n (by decide +kernel : decode prog_1_method_26_code 27 = .ok (.iload_n 2, 1)) rfl ?_
    have e9 : k = n := (by omega)
    subst e9
    exact g_iret hR (by decide +kernel : decode prog_1_method_26_code 28 = .ok (.ireturn, 1)) rfl ⟨_, rfl, rfl, rfl⟩
  · refine g_iload_n (by decide +kernel : decode prog_1_method_26_code 9 = .ok (.iload_n 3, 1)) rfl ?_
    refine g_aload_n (by decide +kernel : decode prog_1_method_26_code 10 = .ok (.aload_n 0, 1)) rfl ?_
    refine g_alen (n := 12) (by decide +kernel : decode prog_1_method_26_code 11 = .ok (.arraylength, 1)) rfl ?_
    refine g_icmp_geN (tgt := 27) (by decide +kernel : decode prog_1_method_26_code 12 = .ok (.if_icmp .ge 15, 3)) (by decide) (by omega) (by decide) (fun h12 => ?_) (fun h12 => ?_)
    · refine g_iload_n (by decide +kernel : decode prog_1_method_26_code 27 = .ok (.iload_n 2, 1)) rfl ?_
      have e9 : k = n := (by omega)
      subst e9
      exact g_iret hR (by decide +kernel : decode prog_1_method_26_code 28 = .ok (.ireturn, 1)) rfl ⟨_, rfl, rfl, rfl⟩
    · refine g_iload_n (by decide +kernel : decode prog_1_method_26_code 15 = .ok (.iload_n 2, 1)) rfl ?_
      refine g_aload_n (by decide +kernel : decode prog_1_method_26_code 16 = .ok (.aload_n 0, 1)) rfl ?_
      refine g_iload_n (by decide +kernel : decode prog_1_method_26_code 17 = .ok (.iload_n 3, 1)) rfl ?_
      refine g_iaload (a := k) (by decide +kernel : decode prog_1_method_26_code 18 = .ok (.iaload, 1)) rfl rfl (by omega) (by decide) ?_
      refine g_iadd (by decide +kernel : decode prog_1_method_26_code 19 = .ok (.iadd, 1)) ?_
      refine g_istore_n (L' := [some (.ref 3), some (.int (nI n)), some (.int ((suF (σ 3) k) + (σ 3 k))), some (.int (nI k))]) (by decide +kernel : decode prog_1_method_26_code 20 = .ok (.istore_n 2, 1)) (Nat.le_of_ble_eq_true rfl) rfl ?_
      refine g_iincN (n := 1) (L' := [some (.ref 3), some (.int (nI n)), some (.int ((suF (σ 3) k) + (σ 3 k))), some (.int (nI (k + 1)))]) (by decide +kernel : decode prog_1_method_26_code 21 = .ok (.iinc 3 1, 3)) rfl (by decide) (Nat.le_of_ble_eq_true rfl) rfl ?_
      refine g_goto (tgt := 4) (by decide +kernel : decode prog_1_method_26_code 24 = .ok (.goto (-20), 3)) (by decide) ?_
      exact ih (k + 1) (by omega) (by omega) hR
set_option maxRecDepth 20000 in
theorem k_sum3 (σ : Store) {n : Nat} (hn : n ≤ 12) : Ct ΛC mt_LS_sumOf 0 [.ref 3, .int (nI n)] σ (PF (suF (σ 3) n) σ) := by
  refine Ct.of (by decide) (Nat.le_of_ble_eq_true rfl) (fun X hR => ?_)
  show G (ΛC, mt_LS_sumOf, 0) X σ [some (.ref 3), some (.int (nI n)), none, none] [] 0
  refine g_iconst (v := nI 0) (by decide +kernel : decode prog_1_method_26_code 0 = .ok (.iconst 0, 1)) (by decide) ?_
  refine g_istore_n (L' := [some (.ref 3), some (.int (nI n)), some (.int (nI 0)), none]) (by decide +kernel : decode prog_1_method_26_code 1 = .ok (.istore_n 2, 1)) (Nat.le_of_ble_eq_true rfl) rfl ?_
  refine g_iconst (v := nI 0) (by decide +kernel : decode prog_1_method_26_code 2 = .ok (.iconst 0, 1)) (by decide) ?_
  refine g_istore_n (L' := [some (.ref 3), some (.int (nI n)), some (.int (nI 0)), some (.int (nI 0))]) (by decide +kernel : decode prog_1_method_26_code 3 = .ok (.istore_n 3, 1)) (Nat.le_of_ble_eq_true rfl) rfl ?_
  exact k_sum3_lp hn (n + 1) 0 (by omega) (by omega) hR
set_option maxRecDepth 20000 in
theorem k_state {σ τ : Store} {f : Row} (h : RX σ τ f) (x : Int32) : Ct ΛC mt_LS_state 2 [.ref 0, .int x] σ (cP τ (stateV f x) f) := by
  refine Ct.of (by decide) (Nat.le_of_ble_eq_true rfl) (fun X hR => ?_)
  show G (ΛC, mt_LS_state, 2) X σ [some (.ref 0), some (.int x)] [] 0
  have hn8 := h.n8
  refine g_iload_n (by decide +kernel : decode prog_1_method_25_code 0 = .ok (.iload_n 1, 1)) rfl ?_
  rcases sw_in x 6 (by decide) with ⟨j, hj, rfl⟩ | ⟨ho, hno⟩
  · rcases (show j = 0 ∨ j = 1 ∨ j = 2 ∨ j = 3 ∨ j = 4 ∨ j = 5 by omega) with rfl | rfl | rfl | rfl | rfl | rfl
    · refine g_tableIn (x := nI 0) (off := 39) (tgt := 40) (by decide +kernel : decode prog_1_method_25_code 1 = .ok (.tableswitch 112 0 5 #[39, 47, 55, 73, 91, 99], 39)) (by decide) (by decide) rfl (by decide) ?_
      refine g_aload_n (by decide +kernel : decode prog_1_method_25_code 40 = .ok (.aload_n 0, 1)) rfl ?_
      refine g_getR (by decide +kernel : decode prog_1_method_25_code 41 = .ok (.getfield 20, 3)) fl_LS_20 rfl rfl ?_
      refine g_getI (by decide +kernel : decode prog_1_method_25_code 44 = .ok (.getfield 179, 3)) fl_LS_179.get rfl rfl ?_
      refine g_top (w := f 1) (h.n.y) ?_
      exact g_iret hR (by decide +kernel : decode prog_1_method_25_code 47 = .ok (.ireturn, 1)) rfl ⟨_, rfl, ⟨by first | (simp only [stateV, rg_yes 5 0]; done) | (simp only [stateV, rg_yes 5 0]; rfl), h⟩⟩
    · refine g_tableIn (x := nI 1) (off := 47) (tgt := 48) (by decide +kernel : decode prog_1_method_25_code 1 = .ok (.tableswitch 112 0 5 #[39, 47, 55, 73, 91, 99], 39)) (by decide) (by decide) rfl (by decide) ?_
      refine g_aload_n (by decide +kernel : decode prog_1_method_25_code 48 = .ok (.aload_n 0, 1)) rfl ?_
      refine g_getR (by decide +kernel : decode prog_1_method_25_code 49 = .ok (.getfield 20, 3)) fl_LS_20 rfl rfl ?_
      refine g_getI (by decide +kernel : decode prog_1_method_25_code 52 = .ok (.getfield 157, 3)) fl_LS_157.get rfl rfl ?_
      refine g_top (w := nI (msk f (nn f))) (h.n.m) ?_
      exact g_iret hR (by decide +kernel : decode prog_1_method_25_code 55 = .ok (.ireturn, 1)) rfl ⟨_, rfl, ⟨by first | (simp only [stateV, rg_yes 5 1]; done) | (simp only [stateV, rg_yes 5 1]; rfl), h⟩⟩
    · refine g_tableIn (x := nI 2) (off := 55) (tgt := 56) (by decide +kernel : decode prog_1_method_25_code 1 = .ok (.tableswitch 112 0 5 #[39, 47, 55, 73, 91, 99], 39)) (by decide) (by decide) rfl (by decide) ?_
      refine g_aload_n (by decide +kernel : decode prog_1_method_25_code 56 = .ok (.aload_n 0, 1)) rfl ?_
      refine g_getR (by decide +kernel : decode prog_1_method_25_code 57 = .ok (.getfield 20, 3)) fl_LS_20 rfl rfl ?_
      refine g_getR (by decide +kernel : decode prog_1_method_25_code 60 = .ok (.getfield 122, 3)) fl_LS_122 rfl rfl ?_
      refine g_aload_n (by decide +kernel : decode prog_1_method_25_code 63 = .ok (.aload_n 0, 1)) rfl ?_
      refine g_getR (by decide +kernel : decode prog_1_method_25_code 64 = .ok (.getfield 20, 3)) fl_LS_20 rfl rfl ?_
      refine g_getI (by decide +kernel : decode prog_1_method_25_code 67 = .ok (.getfield 92, 3)) fl_LS_92.get rfl rfl ?_
      refine g_top (w := nI (nn f)) (h.n.n) ?_
      refine g_callSI [.ref 5, .int (nI (nn f))] (by decide +kernel : decode prog_1_method_25_code 70 = .ok (.invokestatic 182, 3)) lk_LS_182 (k_sum5 σ (n := nn f) (by omega)) rfl rfl (Nat.le_of_ble_eq_true rfl) (Nat.le_of_ble_eq_true rfl) (fun r70 s70 h70 => ?_)
      obtain ⟨rfl, e70⟩ := h70
      have e70 := e70.symm; subst e70
      refine g_top (w := smF f 1 (nn f)) (suF_p _ (fun k hk => h.n.p1 hk)) ?_
      exact g_iret hR (by decide +kernel : decode prog_1_method_25_code 73 = .ok (.ireturn, 1)) rfl ⟨_, rfl, ⟨by first | (simp only [stateV, rg_yes 5 2]; done) | (simp only [stateV, rg_yes 5 2]; rfl), h⟩⟩
    · refine g_tableIn (x := nI 3) (off := 73) (tgt := 74) (by decide +kernel : decode prog_1_method_25_code 1 = .ok (.tableswitch 112 0 5 #[39, 47, 55, 73, 91, 99], 39)) (by decide) (by decide) rfl (by decide) ?_
      refine g_aload_n (by decide +kernel : decode prog_1_method_25_code 74 = .ok (.aload_n 0, 1)) rfl ?_
      refine g_getR (by decide +kernel : decode prog_1_method_25_code 75 = .ok (.getfield 20, 3)) fl_LS_20 rfl rfl ?_
      refine g_getR (by decide +kernel : decode prog_1_method_25_code 78 = .ok (.getfield 134, 3)) fl_LS_134 rfl rfl ?_
      refine g_aload_n (by decide +kernel : decode prog_1_method_25_code 81 = .ok (.aload_n 0, 1)) rfl ?_
      refine g_getR (by decide +kernel : decode prog_1_method_25_code 82 = .ok (.getfield 20, 3)) fl_LS_20 rfl rfl ?_
      refine g_getI (by decide +kernel : decode prog_1_method_25_code 85 = .ok (.getfield 92, 3)) fl_LS_92.get rfl rfl ?_
      refine g_top (w := nI (nn f)) (h.n.n) ?_
      refine g_callSI [.ref 8, .int (nI (nn f))] (by decide +kernel : decode prog_1_method_25_code 88 = .ok (.invokestatic 182, 3)) lk_LS_182 (k_sum8 σ (n := nn f) (by omega)) rfl rfl (Nat.le_of_ble_eq_true rfl) (Nat.le_of_ble_eq_true rfl) (fun r88 s88 h88 => ?_)
      obtain ⟨rfl, e88⟩ := h88
      have e88 := e88.symm; subst e88
      refine g_top (w := smF f 5 (nn f)) (suF_p _ (fun k hk => h.n.p5 hk)) ?_
      exact g_iret hR (by decide +kernel : decode prog_1_method_25_code 91 = .ok (.ireturn, 1)) rfl ⟨_, rfl, ⟨by first | (simp only [stateV, rg_yes 5 3]; done) | (simp only [stateV, rg_yes 5 3]; rfl), h⟩⟩
    · refine g_tableIn (x := nI 4) (off := 91) (tgt := 92) (by decide +kernel : decode prog_1_method_25_code 1 = .ok (.tableswitch 112 0 5 #[39, 47, 55, 73, 91, 99], 39)) (by decide) (by decide) rfl (by decide) ?_
      refine g_aload_n (by decide +kernel : decode prog_1_method_25_code 92 = .ok (.aload_n 0, 1)) rfl ?_
      refine g_getR (by decide +kernel : decode prog_1_method_25_code 93 = .ok (.getfield 20, 3)) fl_LS_20 rfl rfl ?_
      refine g_callVI [] (by decide +kernel : decode prog_1_method_25_code 96 = .ok (.invokevirtual 186, 3)) lk_LS_186 (n_hidingPlaces h.n) rfl rfl rfl rfl (Nat.le_of_ble_eq_true rfl) (Nat.le_of_ble_eq_true rfl) (fun r96 s96 h96 => ?_)
      obtain ⟨rfl, e96⟩ := h96
      have e96 := e96.symm; subst e96
      exact g_iret hR (by decide +kernel : decode prog_1_method_25_code 99 = .ok (.ireturn, 1)) rfl ⟨_, rfl, ⟨by first | (simp only [stateV, rg_yes 5 4]; done) | (simp only [stateV, rg_yes 5 4]; rfl), h⟩⟩
    · refine g_tableIn (x := nI 5) (off := 99) (tgt := 100) (by decide +kernel : decode prog_1_method_25_code 1 = .ok (.tableswitch 112 0 5 #[39, 47, 55, 73, 91, 99], 39)) (by decide) (by decide) rfl (by decide) ?_
      refine g_aload_n (by decide +kernel : decode prog_1_method_25_code 100 = .ok (.aload_n 0, 1)) rfl ?_
      refine g_getR (by decide +kernel : decode prog_1_method_25_code 101 = .ok (.getfield 20, 3)) fl_LS_20 rfl rfl ?_
      refine g_getR (by decide +kernel : decode prog_1_method_25_code 104 = .ok (.getfield 151, 3)) fl_LS_151 rfl rfl ?_
      refine g_bipush (v := nI 12) (by decide +kernel : decode prog_1_method_25_code 107 = .ok (.bipush 12, 2)) (by decide) ?_
      refine g_callSI [.ref 3, .int (nI 12)] (by decide +kernel : decode prog_1_method_25_code 109 = .ok (.invokestatic 182, 3)) lk_LS_182 (k_sum3 σ (n := 12) (by omega)) rfl rfl (Nat.le_of_ble_eq_true rfl) (Nat.le_of_ble_eq_true rfl) (fun r109 s109 h109 => ?_)
      obtain ⟨rfl, e109⟩ := h109
      have e109 := e109.symm; subst e109
      refine g_top (w := cvF f 12) (suF_c _ (fun k hk => h.n.c hk)) ?_
      exact g_iret hR (by decide +kernel : decode prog_1_method_25_code 112 = .ok (.ireturn, 1)) rfl ⟨_, rfl, ⟨by first | (simp only [stateV, rg_yes 5 5]; done) | (simp only [stateV, rg_yes 5 5]; rfl), h⟩⟩
  · refine g_tableOut (tgt := 113) (by decide +kernel : decode prog_1_method_25_code 1 = .ok (.tableswitch 112 0 5 #[39, 47, 55, 73, 91, 99], 39)) (by omega) (by decide) ?_
    refine g_iconst (v := (-1)) (by decide +kernel : decode prog_1_method_25_code 113 = .ok (.iconst (-1), 1)) (by decide) ?_
    exact g_iret hR (by decide +kernel : decode prog_1_method_25_code 114 = .ok (.ireturn, 1)) rfl ⟨_, rfl, ⟨by first | (simp only [stateV, rg_no hno]; done) | (simp only [stateV, rg_no hno]; rfl), h⟩⟩
