/-! THE PROGRAM: what is tried, rounds, fits, odds -/
set_option maxRecDepth 20000 in
theorem k_nights {σ τ : Store} {f : Row} (h : RX σ τ f) (x : Int32) : Ct ΛC mt_LS_nights 6 [.ref 0, .int x] σ (cP τ (nightsV f x) f) := by
  refine Ct.of (by decide) (Nat.le_of_ble_eq_true rfl) (fun X hR => ?_)
  show G (ΛC, mt_LS_nights, 6) X σ [some (.ref 0), some (.int x)] [] 0
  have hn8 := h.n8
  refine g_iload_n (by decide +kernel : decode prog_1_method_24_code 0 = .ok (.iload_n 1, 1)) rfl ?_
  refine g_iconst (v := nI 1) (by decide +kernel : decode prog_1_method_24_code 1 = .ok (.iconst 1, 1)) (by decide) ?_
  refine g_bipush (v := nI 30) (by decide +kernel : decode prog_1_method_24_code 2 = .ok (.bipush 30, 2)) (by decide) ?_
  refine g_callSI [.int x, .int (nI 1), .int (nI 30)] (by decide +kernel : decode prog_1_method_24_code 4 = .ok (.invokestatic 62, 3)) lk_LS_62 (k_within _ x 1 30) rfl rfl (Nat.le_of_ble_eq_true rfl) (Nat.le_of_ble_eq_true rfl) (fun r4 s4 h4 => ?_)
  rcases h4 with ⟨e4, ⟨rfl, n, ha4, hb4, rfl⟩ | ⟨rfl, n4⟩⟩
  · have e4 := e4.symm; subst e4
    refine g_if_eqN (tgt := 21) (by decide +kernel : decode prog_1_method_24_code 7 = .ok (.ifCond .eq 14, 3)) (by decide) (by decide) (fun h => False.elim (by revert h; decide)) (fun _ => ?_)
    refine g_aload_n (by decide +kernel : decode prog_1_method_24_code 10 = .ok (.aload_n 0, 1)) rfl ?_
    refine g_getR (by decide +kernel : decode prog_1_method_24_code 11 = .ok (.getfield 12, 3)) fl_LS_12 rfl rfl ?_
    refine g_iload_n (by decide +kernel : decode prog_1_method_24_code 14 = .ok (.iload_n 1, 1)) rfl ?_
    refine g_callVI [.int (nI n)] (by decide +kernel : decode prog_1_method_24_code 15 = .ok (.invokevirtual 176, 3)) lk_LS_176 (c_nightsWithMoreHidden h (n := n) (by omega)) rfl rfl rfl rfl (Nat.le_of_ble_eq_true rfl) (Nat.le_of_ble_eq_true rfl) (fun r15 s15 h15 => ?_)
    obtain ⟨rfl, g15⟩ := h15
    refine g_goto (tgt := 22) (by decide +kernel : decode prog_1_method_24_code 18 = .ok (.goto 4, 3)) (by decide) ?_
    exact g_iret hR (by decide +kernel : decode prog_1_method_24_code 22 = .ok (.ireturn, 1)) rfl ⟨_, rfl, ⟨by first | (simp only [nightsV, rg_of ha4 hb4]; done) | (simp only [nightsV, rg_of ha4 hb4]; rfl), g15⟩⟩
  · have e4 := e4.symm; subst e4
    refine g_if_eqN (tgt := 21) (by decide +kernel : decode prog_1_method_24_code 7 = .ok (.ifCond .eq 14, 3)) (by decide) (by decide) (fun _ => ?_) (fun h => False.elim (by revert h; decide))
    refine g_iconst (v := (-1)) (by decide +kernel : decode prog_1_method_24_code 21 = .ok (.iconst (-1), 1)) (by decide) ?_
    exact g_iret hR (by decide +kernel : decode prog_1_method_24_code 22 = .ok (.ireturn, 1)) rfl ⟨_, rfl, ⟨by first | (simp only [nightsV, rg_none n4]; done) | (simp only [nightsV, rg_none n4]; rfl), h⟩⟩
set_option maxRecDepth 20000 in
theorem k_where {σ τ : Store} {f : Row} (h : RX σ τ f) (x y : Int32) : Ct ΛC mt_LS_where 5 [.ref 0, .int x, .int y] σ (cP τ (whereV f x y) f) := by
  refine Ct.of (by decide) (Nat.le_of_ble_eq_true rfl) (fun X hR => ?_)
  show G (ΛC, mt_LS_where, 5) X σ [some (.ref 0), some (.int x), some (.int y)] [] 0
  have hn8 := h.n8
  have hN := fun n => (yN_inv (m := 255) h.i n).2
  refine g_aload_n (by decide +kernel : decode prog_1_method_27_code 0 = .ok (.aload_n 0, 1)) rfl ?_
  refine g_getR (by decide +kernel : decode prog_1_method_27_code 1 = .ok (.getfield 20, 3)) fl_LS_20 rfl rfl ?_
  refine g_iload_n (by decide +kernel : decode prog_1_method_27_code 4 = .ok (.iload_n 1, 1)) rfl ?_
  refine g_callVI [.int x] (by decide +kernel : decode prog_1_method_27_code 5 = .ok (.invokevirtual 116, 3)) lk_LS_116 (n_has h.n x) rfl rfl rfl rfl (Nat.le_of_ble_eq_true rfl) (Nat.le_of_ble_eq_true rfl) (fun r5 s5 h5 => ?_)
  rcases h5 with ⟨e5, ⟨rfl, o, ho5, rfl⟩ | ⟨rfl, n5⟩⟩
  · have e5 := e5.symm; subst e5
    refine g_if_eqN (tgt := 21) (by decide +kernel : decode prog_1_method_27_code 8 = .ok (.ifCond .eq 13, 3)) (by decide) (by decide) (fun h => False.elim (by revert h; decide)) (fun _ => ?_)
    refine g_iload_n (by decide +kernel : decode prog_1_method_27_code 11 = .ok (.iload_n 2, 1)) rfl ?_
    refine g_iconst (v := nI 0) (by decide +kernel : decode prog_1_method_27_code 12 = .ok (.iconst 0, 1)) (by decide) ?_
    refine g_bipush (v := nI 60) (by decide +kernel : decode prog_1_method_27_code 13 = .ok (.bipush 60, 2)) (by decide) ?_
    refine g_callSI [.int y, .int (nI 0), .int (nI 60)] (by decide +kernel : decode prog_1_method_27_code 15 = .ok (.invokestatic 62, 3)) lk_LS_62 (k_within _ y 0 60) rfl rfl (Nat.le_of_ble_eq_true rfl) (Nat.le_of_ble_eq_true rfl) (fun r15 s15 h15 => ?_)
    rcases h15 with ⟨e15, ⟨rfl, n, ha15, hb15, rfl⟩ | ⟨rfl, n15⟩⟩
    · have e15 := e15.symm; subst e15
      refine g_if_neN (tgt := 23) (by decide +kernel : decode prog_1_method_27_code 18 = .ok (.ifCond .ne 5, 3)) (by decide) (by decide) (fun _ => ?_) (fun h => False.elim (by revert h; decide))
      refine g_aload_n (by decide +kernel : decode prog_1_method_27_code 23 = .ok (.aload_n 0, 1)) rfl ?_
      refine g_getR (by decide +kernel : decode prog_1_method_27_code 24 = .ok (.getfield 12, 3)) fl_LS_12 rfl rfl ?_
      refine g_getR (by decide +kernel : decode prog_1_method_27_code 27 = .ok (.getfield 74, 3)) fl_LS_74 rfl rfl ?_
      refine g_aload_n (by decide +kernel : decode prog_1_method_27_code 30 = .ok (.aload_n 0, 1)) rfl ?_
      refine g_getR (by decide +kernel : decode prog_1_method_27_code 31 = .ok (.getfield 20, 3)) fl_LS_20 rfl rfl ?_
      refine g_callVV [.ref 1] (by decide +kernel : decode prog_1_method_27_code 34 = .ok (.invokevirtual 87, 3)) lk_LS_87 (c_becTN h) rfl rfl rfl rfl (Nat.le_of_ble_eq_true rfl) (Nat.le_of_ble_eq_true rfl) (fun s34 h34 => ?_)
      obtain ⟨g34, u34⟩ := h34
      refine g_aload_n (by decide +kernel : decode prog_1_method_27_code 37 = .ok (.aload_n 0, 1)) rfl ?_
      refine g_getR (by decide +kernel : decode prog_1_method_27_code 38 = .ok (.getfield 12, 3)) fl_LS_12 rfl rfl ?_
      refine g_getR (by decide +kernel : decode prog_1_method_27_code 41 = .ok (.getfield 74, 3)) fl_LS_74 rfl rfl ?_
      refine g_iload_n (by decide +kernel : decode prog_1_method_27_code 44 = .ok (.iload_n 2, 1)) rfl ?_
      refine g_sipush (v := nI 255) (by decide +kernel : decode prog_1_method_27_code 45 = .ok (.sipush 255, 3)) (by decide) ?_
      refine g_callVV [.int (nI n), .int (nI 255)] (by decide +kernel : decode prog_1_method_27_code 48 = .ok (.invokevirtual 165, 3)) lk_LS_165 (t_passYears g34 u34 (m := 255) (n := n) (by decide) (by omega)) rfl rfl rfl rfl (Nat.le_of_ble_eq_true rfl) (Nat.le_of_ble_eq_true rfl) (fun s48 h48 => ?_)
      obtain ⟨g48, u48⟩ := h48
      refine g_aload_n (by decide +kernel : decode prog_1_method_27_code 51 = .ok (.aload_n 0, 1)) rfl ?_
      refine g_getR (by decide +kernel : decode prog_1_method_27_code 52 = .ok (.getfield 12, 3)) fl_LS_12 rfl rfl ?_
      refine g_getR (by decide +kernel : decode prog_1_method_27_code 55 = .ok (.getfield 74, 3)) fl_LS_74 rfl rfl ?_
      refine g_getR (by decide +kernel : decode prog_1_method_27_code 58 = .ok (.getfield 128, 3)) fl_LS_128 rfl rfl ?_
      refine g_iload_n (by decide +kernel : decode prog_1_method_27_code 61 = .ok (.iload_n 1, 1)) rfl ?_
      refine g_iaload (a := o) (by decide +kernel : decode prog_1_method_27_code 62 = .ok (.iaload, 1)) rfl rfl (by first | omega | (rw [hN n]; omega)) (by decide) ?_
      refine g_top (w := yN 255 f n (19 + 6 * o + 3)) (u48.p3 (by rw [hN]; omega)) ?_
      exact g_iret hR (by decide +kernel : decode prog_1_method_27_code 63 = .ok (.ireturn, 1)) rfl ⟨_, rfl, ⟨by first | (simp only [whereV, pz_of h.i ho5, rg_of ha15 hb15]; done) | (simp only [whereV, pz_of h.i ho5, rg_of ha15 hb15]; rfl), g48⟩⟩
    · have e15 := e15.symm; subst e15
      refine g_if_neN (tgt := 23) (by decide +kernel : decode prog_1_method_27_code 18 = .ok (.ifCond .ne 5, 3)) (by decide) (by decide) (fun h => False.elim (by revert h; decide)) (fun _ => ?_)
      refine g_iconst (v := (-1)) (by decide +kernel : decode prog_1_method_27_code 21 = .ok (.iconst (-1), 1)) (by decide) ?_
      exact g_iret hR (by decide +kernel : decode prog_1_method_27_code 22 = .ok (.ireturn, 1)) rfl ⟨_, rfl, ⟨by first | (simp only [whereV, pz_of h.i ho5, rg_none n15]; done) | (simp only [whereV, pz_of h.i ho5, rg_none n15]; rfl), h⟩⟩
  · have e5 := e5.symm; subst e5
    refine g_if_eqN (tgt := 21) (by decide +kernel : decode prog_1_method_27_code 8 = .ok (.ifCond .eq 13, 3)) (by decide) (by decide) (fun _ => ?_) (fun h => False.elim (by revert h; decide))
    refine g_iconst (v := (-1)) (by decide +kernel : decode prog_1_method_27_code 21 = .ok (.iconst (-1), 1)) (by decide) ?_
    exact g_iret hR (by decide +kernel : decode prog_1_method_27_code 22 = .ok (.ireturn, 1)) rfl ⟨_, rfl, ⟨by first | (simp only [whereV, pz_none h.i n5]; done) | (simp only [whereV, pz_none h.i n5]; rfl), h⟩⟩
set_option maxRecDepth 20000 in
theorem k_shown {σ τ : Store} {f : Row} (h : RX σ τ f) (x : Int32) : Ct ΛC mt_LS_shown 6 [.ref 0, .int x] σ (cP τ (shownV f x) f) := by
  refine Ct.of (by decide) (Nat.le_of_ble_eq_true rfl) (fun X hR => ?_)
  show G (ΛC, mt_LS_shown, 6) X σ [some (.ref 0), some (.int x), none] [] 0
  have hn8 := h.n8
  refine g_aload_n (by decide +kernel : decode prog_1_method_28_code 0 = .ok (.aload_n 0, 1)) rfl ?_
  refine g_getR (by decide +kernel : decode prog_1_method_28_code 1 = .ok (.getfield 20, 3)) fl_LS_20 rfl rfl ?_
  refine g_iload_n (by decide +kernel : decode prog_1_method_28_code 4 = .ok (.iload_n 1, 1)) rfl ?_
  refine g_callVI [.int x] (by decide +kernel : decode prog_1_method_28_code 5 = .ok (.invokevirtual 116, 3)) lk_LS_116 (n_has h.n x) rfl rfl rfl rfl (Nat.le_of_ble_eq_true rfl) (Nat.le_of_ble_eq_true rfl) (fun r5 s5 h5 => ?_)
  rcases h5 with ⟨e5, ⟨rfl, o, ho5, rfl⟩ | ⟨rfl, n5⟩⟩
  · have e5 := e5.symm; subst e5
    refine g_if_neN (tgt := 13) (by decide +kernel : decode prog_1_method_28_code 8 = .ok (.ifCond .ne 5, 3)) (by decide) (by decide) (fun _ => ?_) (fun h => False.elim (by revert h; decide))
    refine g_aload_n (by decide +kernel : decode prog_1_method_28_code 13 = .ok (.aload_n 0, 1)) rfl ?_
    refine g_getR (by decide +kernel : decode prog_1_method_28_code 14 = .ok (.getfield 12, 3)) fl_LS_12 rfl rfl ?_
    refine g_iload_n (by decide +kernel : decode prog_1_method_28_code 17 = .ok (.iload_n 1, 1)) rfl ?_
    refine g_sipush (v := nI 255) (by decide +kernel : decode prog_1_method_28_code 18 = .ok (.sipush 255, 3)) (by decide) ?_
    refine g_callVI [.int (nI o), .int (nI 255)] (by decide +kernel : decode prog_1_method_28_code 21 = .ok (.invokevirtual 189, 3)) lk_LS_189 (c_shownBehind h (o := o) (m := 255) (by omega) (by decide)) rfl rfl rfl rfl (Nat.le_of_ble_eq_true rfl) (Nat.le_of_ble_eq_true rfl) (fun r21 s21 h21 => ?_)
    obtain ⟨rfl, g21, w21⟩ := h21
    have z21 := shw_le 255 o 61 f
    refine g_istore_n (L' := [some (.ref 0), some (.int (nI o)), some (.int (nI (shw 255 o 61 f)))]) (by decide +kernel : decode prog_1_method_28_code 24 = .ok (.istore_n 2, 1)) (Nat.le_of_ble_eq_true rfl) rfl ?_
    refine g_iload_n (by decide +kernel : decode prog_1_method_28_code 25 = .ok (.iload_n 2, 1)) rfl ?_
    refine g_bipush (v := nI 61) (by decide +kernel : decode prog_1_method_28_code 26 = .ok (.bipush 61, 2)) (by decide) ?_
    refine g_icmp_neN (tgt := 36) (by decide +kernel : decode prog_1_method_28_code 28 = .ok (.if_icmp .ne 8, 3)) (by decide) (by omega) (by decide) (fun h28 => ?_) (fun h28 => ?_)
    · refine g_iload_n (by decide +kernel : decode prog_1_method_28_code 36 = .ok (.iload_n 2, 1)) rfl ?_
      exact g_iret hR (by decide +kernel : decode prog_1_method_28_code 37 = .ok (.ireturn, 1)) rfl ⟨_, rfl, ⟨by simp only [shownV, pz_of h.i ho5]; rw [if_neg (by omega)], g21⟩⟩
    · refine g_bipush (v := (-3)) (by decide +kernel : decode prog_1_method_28_code 31 = .ok (.bipush (-3), 2)) (by decide) ?_
      refine g_goto (tgt := 37) (by decide +kernel : decode prog_1_method_28_code 33 = .ok (.goto 4, 3)) (by decide) ?_
      exact g_iret hR (by decide +kernel : decode prog_1_method_28_code 37 = .ok (.ireturn, 1)) rfl ⟨_, rfl, ⟨by simp only [shownV, pz_of h.i ho5]; rw [if_pos (by omega)], g21⟩⟩
  · have e5 := e5.symm; subst e5
    refine g_if_neN (tgt := 13) (by decide +kernel : decode prog_1_method_28_code 8 = .ok (.ifCond .ne 5, 3)) (by decide) (by decide) (fun h => False.elim (by revert h; decide)) (fun _ => ?_)
    refine g_iconst (v := (-1)) (by decide +kernel : decode prog_1_method_28_code 11 = .ok (.iconst (-1), 1)) (by decide) ?_
    exact g_iret hR (by decide +kernel : decode prog_1_method_28_code 12 = .ok (.ireturn, 1)) rfl ⟨_, rfl, ⟨by first | (simp only [shownV, pz_none h.i n5]; done) | (simp only [shownV, pz_none h.i n5]; rfl), h⟩⟩
set_option maxRecDepth 20000 in
theorem k_all {σ τ : Store} {f : Row} (h : RX σ τ f)  : Ct ΛC mt_LS_all 5 [.ref 0] σ (cP τ (allV f) f) := by
  refine Ct.of (by decide) (Nat.le_of_ble_eq_true rfl) (fun X hR => ?_)
  show G (ΛC, mt_LS_all, 5) X σ [some (.ref 0), none] [] 0
  have hn8 := h.n8
  refine g_aload_n (by decide +kernel : decode prog_1_method_29_code 0 = .ok (.aload_n 0, 1)) rfl ?_
  refine g_getR (by decide +kernel : decode prog_1_method_29_code 1 = .ok (.getfield 12, 3)) fl_LS_12 rfl rfl ?_
  refine g_callVI [] (by decide +kernel : decode prog_1_method_29_code 4 = .ok (.invokevirtual 193, 3)) lk_LS_193 (c_allShownBehind h) rfl rfl rfl rfl (Nat.le_of_ble_eq_true rfl) (Nat.le_of_ble_eq_true rfl) (fun r4 s4 h4 => ?_)
  obtain ⟨rfl, g4⟩ := h4
  have z4 := alw_le 61 f
  refine g_istore_n (L' := [some (.ref 0), some (.int (nI (alw 61 f)))]) (by decide +kernel : decode prog_1_method_29_code 7 = .ok (.istore_n 1, 1)) (Nat.le_of_ble_eq_true rfl) rfl ?_
  refine g_iload_n (by decide +kernel : decode prog_1_method_29_code 8 = .ok (.iload_n 1, 1)) rfl ?_
  refine g_bipush (v := nI 61) (by decide +kernel : decode prog_1_method_29_code 9 = .ok (.bipush 61, 2)) (by decide) ?_
  refine g_icmp_neN (tgt := 19) (by decide +kernel : decode prog_1_method_29_code 11 = .ok (.if_icmp .ne 8, 3)) (by decide) (by omega) (by decide) (fun h11 => ?_) (fun h11 => ?_)
  · refine g_iload_n (by decide +kernel : decode prog_1_method_29_code 19 = .ok (.iload_n 1, 1)) rfl ?_
    exact g_iret hR (by decide +kernel : decode prog_1_method_29_code 20 = .ok (.ireturn, 1)) rfl ⟨_, rfl, ⟨by unfold allV; rw [if_neg (by omega)], g4⟩⟩
  · refine g_bipush (v := (-3)) (by decide +kernel : decode prog_1_method_29_code 14 = .ok (.bipush (-3), 2)) (by decide) ?_
    refine g_goto (tgt := 20) (by decide +kernel : decode prog_1_method_29_code 16 = .ok (.goto 4, 3)) (by decide) ?_
    exact g_iret hR (by decide +kernel : decode prog_1_method_29_code 20 = .ok (.ireturn, 1)) rfl ⟨_, rfl, ⟨by unfold allV; rw [if_pos (by omega)], g4⟩⟩
theorem fin_yes {σ : Store} {f : Row} {o : Nat} (hp : pz f (nI o) = some o) (ho : o < nn f) (q : ∃ j, 1 ≤ j ∧ j ≤ 60 ∧ nI (shw 255 o 61 f) = nI j) (w : ∀ j, shw 255 o 61 f = j + 1 → RB (tV σ) (fbF 255 (yN 255 f j)) (nn f)) : σ 18 o = finderV f (nI o) := by
  have z := shw_le 255 o 61 f
  obtain ⟨j, h1, h2, h3⟩ := q
  have h4 : shw 255 o 61 f = j := (nI_eq (by omega) (by omega)).mp h3
  obtain ⟨k, rfl⟩ : ∃ k, j = k + 1 := ⟨j - 1, by omega⟩
  unfold finderV
  rw [hp]
  dsimp only
  rw [h4]
  dsimp only
  rw [if_neg (by omega)]
  rcases w k h4 o ho with ⟨a, b⟩ | ⟨i, hi, a, b⟩
  · rw [a, if_pos (by decide)]; exact b
  · rw [a, if_neg (nI_pos (by omega))]; exact b
theorem fin_no {f : Row} {o : Nat} (hp : pz f (nI o) = some o) (q : ¬ ∃ j, 1 ≤ j ∧ j ≤ 60 ∧ nI (shw 255 o 61 f) = nI j) : -3 = finderV f (nI o) := by
  unfold finderV
  rw [hp]
  dsimp only
  cases e : shw 255 o 61 f with
  | zero => rfl
  | succ k =>
    dsimp only
    rw [if_pos]
    by_cases z : k + 1 ≤ 60
    · exact absurd ⟨k + 1, by omega, z, by rw [e]⟩ q
    · omega
set_option maxRecDepth 20000 in
theorem k_finder {σ τ : Store} {f : Row} (h : RX σ τ f) (x : Int32) : Ct ΛC mt_LS_finder 6 [.ref 0, .int x] σ (cP τ (finderV f x) f) := by
  refine Ct.of (by decide) (Nat.le_of_ble_eq_true rfl) (fun X hR => ?_)
  show G (ΛC, mt_LS_finder, 6) X σ [some (.ref 0), some (.int x), none] [] 0
  have hn8 := h.n8
  refine g_aload_n (by decide +kernel : decode prog_1_method_30_code 0 = .ok (.aload_n 0, 1)) rfl ?_
  refine g_getR (by decide +kernel : decode prog_1_method_30_code 1 = .ok (.getfield 20, 3)) fl_LS_20 rfl rfl ?_
  refine g_iload_n (by decide +kernel : decode prog_1_method_30_code 4 = .ok (.iload_n 1, 1)) rfl ?_
  refine g_callVI [.int x] (by decide +kernel : decode prog_1_method_30_code 5 = .ok (.invokevirtual 116, 3)) lk_LS_116 (n_has h.n x) rfl rfl rfl rfl (Nat.le_of_ble_eq_true rfl) (Nat.le_of_ble_eq_true rfl) (fun r5 s5 h5 => ?_)
  rcases h5 with ⟨e5, ⟨rfl, o, ho5, rfl⟩ | ⟨rfl, n5⟩⟩
  · have e5 := e5.symm; subst e5
    refine g_if_neN (tgt := 13) (by decide +kernel : decode prog_1_method_30_code 8 = .ok (.ifCond .ne 5, 3)) (by decide) (by decide) (fun _ => ?_) (fun h => False.elim (by revert h; decide))
    refine g_aload_n (by decide +kernel : decode prog_1_method_30_code 13 = .ok (.aload_n 0, 1)) rfl ?_
    refine g_getR (by decide +kernel : decode prog_1_method_30_code 14 = .ok (.getfield 12, 3)) fl_LS_12 rfl rfl ?_
    refine g_iload_n (by decide +kernel : decode prog_1_method_30_code 17 = .ok (.iload_n 1, 1)) rfl ?_
    refine g_sipush (v := nI 255) (by decide +kernel : decode prog_1_method_30_code 18 = .ok (.sipush 255, 3)) (by decide) ?_
    refine g_callVI [.int (nI o), .int (nI 255)] (by decide +kernel : decode prog_1_method_30_code 21 = .ok (.invokevirtual 189, 3)) lk_LS_189 (c_shownBehind h (o := o) (m := 255) (by omega) (by decide)) rfl rfl rfl rfl (Nat.le_of_ble_eq_true rfl) (Nat.le_of_ble_eq_true rfl) (fun r21 s21 h21 => ?_)
    obtain ⟨rfl, g21, w21⟩ := h21
    have z21 := shw_le 255 o 61 f
    refine g_istore_n (L' := [some (.ref 0), some (.int (nI o)), some (.int (nI (shw 255 o 61 f)))]) (by decide +kernel : decode prog_1_method_30_code 24 = .ok (.istore_n 2, 1)) (Nat.le_of_ble_eq_true rfl) rfl ?_
    refine g_iload_n (by decide +kernel : decode prog_1_method_30_code 25 = .ok (.iload_n 2, 1)) rfl ?_
    refine g_iconst (v := nI 1) (by decide +kernel : decode prog_1_method_30_code 26 = .ok (.iconst 1, 1)) (by decide) ?_
    refine g_bipush (v := nI 60) (by decide +kernel : decode prog_1_method_30_code 27 = .ok (.bipush 60, 2)) (by decide) ?_
    refine g_callSI [.int (nI (shw 255 o 61 f)), .int (nI 1), .int (nI 60)] (by decide +kernel : decode prog_1_method_30_code 29 = .ok (.invokestatic 62, 3)) lk_LS_62 (k_within _ (nI (shw 255 o 61 f)) 1 60) rfl rfl (Nat.le_of_ble_eq_true rfl) (Nat.le_of_ble_eq_true rfl) (fun r29 s29 h29 => ?_)
    rcases h29 with ⟨e29, ⟨rfl, q29⟩ | ⟨rfl, q29⟩⟩
    · have e29 := e29.symm; subst e29
      refine g_if_eqN (tgt := 50) (by decide +kernel : decode prog_1_method_30_code 32 = .ok (.ifCond .eq 18, 3)) (by decide) (by decide) (fun h => False.elim (by revert h; decide)) (fun _ => ?_)
      refine g_aload_n (by decide +kernel : decode prog_1_method_30_code 35 = .ok (.aload_n 0, 1)) rfl ?_
      refine g_getR (by decide +kernel : decode prog_1_method_30_code 36 = .ok (.getfield 12, 3)) fl_LS_12 rfl rfl ?_
      refine g_getR (by decide +kernel : decode prog_1_method_30_code 39 = .ok (.getfield 74, 3)) fl_LS_74 rfl rfl ?_
      refine g_getR (by decide +kernel : decode prog_1_method_30_code 42 = .ok (.getfield 196, 3)) fl_LS_196 rfl rfl ?_
      refine g_iload_n (by decide +kernel : decode prog_1_method_30_code 45 = .ok (.iload_n 1, 1)) rfl ?_
      refine g_iaload (a := o) (by decide +kernel : decode prog_1_method_30_code 46 = .ok (.iaload, 1)) rfl rfl (by omega) (by decide) ?_
      refine g_goto (tgt := 52) (by decide +kernel : decode prog_1_method_30_code 47 = .ok (.goto 5, 3)) (by decide) ?_
      exact g_iret hR (by decide +kernel : decode prog_1_method_30_code 52 = .ok (.ireturn, 1)) rfl ⟨_, rfl, ⟨fin_yes (pz_of h.i (by omega)) (by omega) q29 w21, g21⟩⟩
    · have e29 := e29.symm; subst e29
      refine g_if_eqN (tgt := 50) (by decide +kernel : decode prog_1_method_30_code 32 = .ok (.ifCond .eq 18, 3)) (by decide) (by decide) (fun _ => ?_) (fun h => False.elim (by revert h; decide))
      refine g_bipush (v := (-3)) (by decide +kernel : decode prog_1_method_30_code 50 = .ok (.bipush (-3), 2)) (by decide) ?_
      exact g_iret hR (by decide +kernel : decode prog_1_method_30_code 52 = .ok (.ireturn, 1)) rfl ⟨_, rfl, ⟨fin_no (pz_of h.i (by omega)) q29, g21⟩⟩
  · have e5 := e5.symm; subst e5
    refine g_if_neN (tgt := 13) (by decide +kernel : decode prog_1_method_30_code 8 = .ok (.ifCond .ne 5, 3)) (by decide) (by decide) (fun h => False.elim (by revert h; decide)) (fun _ => ?_)
    refine g_iconst (v := (-1)) (by decide +kernel : decode prog_1_method_30_code 11 = .ok (.iconst (-1), 1)) (by decide) ?_
    exact g_iret hR (by decide +kernel : decode prog_1_method_30_code 12 = .ok (.ireturn, 1)) rfl ⟨_, rfl, ⟨by first | (simp only [finderV, pz_none h.i n5]; done) | (simp only [finderV, pz_none h.i n5]; rfl), h⟩⟩
set_option maxRecDepth 20000 in
theorem k_safeFor {σ τ : Store} {f : Row} (h : RX σ τ f) (x : Int32) : Ct ΛC mt_LS_safeFor 6 [.ref 0, .int x] σ (cP τ (safeV f x) f) := by
  refine Ct.of (by decide) (Nat.le_of_ble_eq_true rfl) (fun X hR => ?_)
  show G (ΛC, mt_LS_safeFor, 6) X σ [some (.ref 0), some (.int x)] [] 0
  have hn8 := h.n8
  refine g_aload_n (by decide +kernel : decode prog_1_method_31_code 0 = .ok (.aload_n 0, 1)) rfl ?_
  refine g_getR (by decide +kernel : decode prog_1_method_31_code 1 = .ok (.getfield 20, 3)) fl_LS_20 rfl rfl ?_
  refine g_iload_n (by decide +kernel : decode prog_1_method_31_code 4 = .ok (.iload_n 1, 1)) rfl ?_
  refine g_callVI [.int x] (by decide +kernel : decode prog_1_method_31_code 5 = .ok (.invokevirtual 116, 3)) lk_LS_116 (n_has h.n x) rfl rfl rfl rfl (Nat.le_of_ble_eq_true rfl) (Nat.le_of_ble_eq_true rfl) (fun r5 s5 h5 => ?_)
  rcases h5 with ⟨e5, ⟨rfl, o, ho5, rfl⟩ | ⟨rfl, n5⟩⟩
  · have e5 := e5.symm; subst e5
    refine g_if_eqN (tgt := 22) (by decide +kernel : decode prog_1_method_31_code 8 = .ok (.ifCond .eq 14, 3)) (by decide) (by decide) (fun h => False.elim (by revert h; decide)) (fun _ => ?_)
    refine g_aload_n (by decide +kernel : decode prog_1_method_31_code 11 = .ok (.aload_n 0, 1)) rfl ?_
    refine g_getR (by decide +kernel : decode prog_1_method_31_code 12 = .ok (.getfield 12, 3)) fl_LS_12 rfl rfl ?_
    refine g_iload_n (by decide +kernel : decode prog_1_method_31_code 15 = .ok (.iload_n 1, 1)) rfl ?_
    refine g_callVI [.int (nI o)] (by decide +kernel : decode prog_1_method_31_code 16 = .ok (.invokevirtual 199, 3)) lk_LS_199 (c_safestPlace h (o := o) (by omega)) rfl rfl rfl rfl (Nat.le_of_ble_eq_true rfl) (Nat.le_of_ble_eq_true rfl) (fun r16 s16 h16 => ?_)
    obtain ⟨rfl, g16⟩ := h16
    refine g_goto (tgt := 23) (by decide +kernel : decode prog_1_method_31_code 19 = .ok (.goto 4, 3)) (by decide) ?_
    exact g_iret hR (by decide +kernel : decode prog_1_method_31_code 23 = .ok (.ireturn, 1)) rfl ⟨_, rfl, ⟨by first | (simp only [safeV, pz_of h.i ho5]; done) | (simp only [safeV, pz_of h.i ho5]; rfl), g16⟩⟩
  · have e5 := e5.symm; subst e5
    refine g_if_eqN (tgt := 22) (by decide +kernel : decode prog_1_method_31_code 8 = .ok (.ifCond .eq 14, 3)) (by decide) (by decide) (fun _ => ?_) (fun h => False.elim (by revert h; decide))
    refine g_iconst (v := (-1)) (by decide +kernel : decode prog_1_method_31_code 22 = .ok (.iconst (-1), 1)) (by decide) ?_
    exact g_iret hR (by decide +kernel : decode prog_1_method_31_code 23 = .ok (.ireturn, 1)) rfl ⟨_, rfl, ⟨by first | (simp only [safeV, pz_none h.i n5]; done) | (simp only [safeV, pz_none h.i n5]; rfl), h⟩⟩
set_option maxRecDepth 20000 in
theorem k_kindFor {σ τ : Store} {f : Row} (h : RX σ τ f) (x : Int32) : Ct ΛC mt_LS_kindFor 6 [.ref 0, .int x] σ (cP τ (kindV f x) f) := by
  refine Ct.of (by decide) (Nat.le_of_ble_eq_true rfl) (fun X hR => ?_)
  show G (ΛC, mt_LS_kindFor, 6) X σ [some (.ref 0), some (.int x)] [] 0
  have hn8 := h.n8
  refine g_aload_n (by decide +kernel : decode prog_1_method_32_code 0 = .ok (.aload_n 0, 1)) rfl ?_
  refine g_getR (by decide +kernel : decode prog_1_method_32_code 1 = .ok (.getfield 20, 3)) fl_LS_20 rfl rfl ?_
  refine g_iload_n (by decide +kernel : decode prog_1_method_32_code 4 = .ok (.iload_n 1, 1)) rfl ?_
  refine g_callVI [.int x] (by decide +kernel : decode prog_1_method_32_code 5 = .ok (.invokevirtual 116, 3)) lk_LS_116 (n_has h.n x) rfl rfl rfl rfl (Nat.le_of_ble_eq_true rfl) (Nat.le_of_ble_eq_true rfl) (fun r5 s5 h5 => ?_)
  rcases h5 with ⟨e5, ⟨rfl, o, ho5, rfl⟩ | ⟨rfl, n5⟩⟩
  · have e5 := e5.symm; subst e5
    refine g_if_eqN (tgt := 22) (by decide +kernel : decode prog_1_method_32_code 8 = .ok (.ifCond .eq 14, 3)) (by decide) (by decide) (fun h => False.elim (by revert h; decide)) (fun _ => ?_)
    refine g_aload_n (by decide +kernel : decode prog_1_method_32_code 11 = .ok (.aload_n 0, 1)) rfl ?_
    refine g_getR (by decide +kernel : decode prog_1_method_32_code 12 = .ok (.getfield 12, 3)) fl_LS_12 rfl rfl ?_
    refine g_iload_n (by decide +kernel : decode prog_1_method_32_code 15 = .ok (.iload_n 1, 1)) rfl ?_
    refine g_callVI [.int (nI o)] (by decide +kernel : decode prog_1_method_32_code 16 = .ok (.invokevirtual 202, 3)) lk_LS_202 (c_safestKind h (o := o) (by omega)) rfl rfl rfl rfl (Nat.le_of_ble_eq_true rfl) (Nat.le_of_ble_eq_true rfl) (fun r16 s16 h16 => ?_)
    obtain ⟨rfl, g16⟩ := h16
    refine g_goto (tgt := 23) (by decide +kernel : decode prog_1_method_32_code 19 = .ok (.goto 4, 3)) (by decide) ?_
    exact g_iret hR (by decide +kernel : decode prog_1_method_32_code 23 = .ok (.ireturn, 1)) rfl ⟨_, rfl, ⟨by first | (simp only [kindV, pz_of h.i ho5]; done) | (simp only [kindV, pz_of h.i ho5]; rfl), g16⟩⟩
  · have e5 := e5.symm; subst e5
    refine g_if_eqN (tgt := 22) (by decide +kernel : decode prog_1_method_32_code 8 = .ok (.ifCond .eq 14, 3)) (by decide) (by decide) (fun _ => ?_) (fun h => False.elim (by revert h; decide))
    refine g_iconst (v := (-1)) (by decide +kernel : decode prog_1_method_32_code 22 = .ok (.iconst (-1), 1)) (by decide) ?_
    exact g_iret hR (by decide +kernel : decode prog_1_method_32_code 23 = .ok (.ireturn, 1)) rfl ⟨_, rfl, ⟨by first | (simp only [kindV, pz_none h.i n5]; done) | (simp only [kindV, pz_none h.i n5]; rfl), h⟩⟩
set_option maxRecDepth 20000 in
theorem k_witFor {σ τ : Store} {f : Row} (h : RX σ τ f) (x y : Int32) : Ct ΛC mt_LS_witFor 6 [.ref 0, .int x, .int y] σ (cP τ (witV f x y) f) := by
  refine Ct.of (by decide) (Nat.le_of_ble_eq_true rfl) (fun X hR => ?_)
  show G (ΛC, mt_LS_witFor, 6) X σ [some (.ref 0), some (.int x), some (.int y)] [] 0
  have hn8 := h.n8
  refine g_aload_n (by decide +kernel : decode prog_1_method_33_code 0 = .ok (.aload_n 0, 1)) rfl ?_
  refine g_getR (by decide +kernel : decode prog_1_method_33_code 1 = .ok (.getfield 20, 3)) fl_LS_20 rfl rfl ?_
  refine g_iload_n (by decide +kernel : decode prog_1_method_33_code 4 = .ok (.iload_n 1, 1)) rfl ?_
  refine g_callVI [.int x] (by decide +kernel : decode prog_1_method_33_code 5 = .ok (.invokevirtual 116, 3)) lk_LS_116 (n_has h.n x) rfl rfl rfl rfl (Nat.le_of_ble_eq_true rfl) (Nat.le_of_ble_eq_true rfl) (fun r5 s5 h5 => ?_)
  rcases h5 with ⟨e5, ⟨rfl, o, ho5, rfl⟩ | ⟨rfl, n5⟩⟩
  · have e5 := e5.symm; subst e5
    refine g_if_eqN (tgt := 21) (by decide +kernel : decode prog_1_method_33_code 8 = .ok (.ifCond .eq 13, 3)) (by decide) (by decide) (fun h => False.elim (by revert h; decide)) (fun _ => ?_)
    refine g_iload_n (by decide +kernel : decode prog_1_method_33_code 11 = .ok (.iload_n 2, 1)) rfl ?_
    refine g_iconst (v := nI 1) (by decide +kernel : decode prog_1_method_33_code 12 = .ok (.iconst 1, 1)) (by decide) ?_
    refine g_bipush (v := nI 20) (by decide +kernel : decode prog_1_method_33_code 13 = .ok (.bipush 20, 2)) (by decide) ?_
    refine g_callSI [.int y, .int (nI 1), .int (nI 20)] (by decide +kernel : decode prog_1_method_33_code 15 = .ok (.invokestatic 62, 3)) lk_LS_62 (k_within _ y 1 20) rfl rfl (Nat.le_of_ble_eq_true rfl) (Nat.le_of_ble_eq_true rfl) (fun r15 s15 h15 => ?_)
    rcases h15 with ⟨e15, ⟨rfl, n, ha15, hb15, rfl⟩ | ⟨rfl, n15⟩⟩
    · have e15 := e15.symm; subst e15
      refine g_if_neN (tgt := 23) (by decide +kernel : decode prog_1_method_33_code 18 = .ok (.ifCond .ne 5, 3)) (by decide) (by decide) (fun _ => ?_) (fun h => False.elim (by revert h; decide))
      refine g_aload_n (by decide +kernel : decode prog_1_method_33_code 23 = .ok (.aload_n 0, 1)) rfl ?_
      refine g_getR (by decide +kernel : decode prog_1_method_33_code 24 = .ok (.getfield 12, 3)) fl_LS_12 rfl rfl ?_
      refine g_iload_n (by decide +kernel : decode prog_1_method_33_code 27 = .ok (.iload_n 1, 1)) rfl ?_
      refine g_iload_n (by decide +kernel : decode prog_1_method_33_code 28 = .ok (.iload_n 2, 1)) rfl ?_
      refine g_callVI [.int (nI o), .int (nI n)] (by decide +kernel : decode prog_1_method_33_code 29 = .ok (.invokevirtual 205, 3)) lk_LS_205 (c_leastHidingWit h (o := o) (n := n) (by omega) (by omega)) rfl rfl rfl rfl (Nat.le_of_ble_eq_true rfl) (Nat.le_of_ble_eq_true rfl) (fun r29 s29 h29 => ?_)
      obtain ⟨rfl, g29⟩ := h29
      exact g_iret hR (by decide +kernel : decode prog_1_method_33_code 32 = .ok (.ireturn, 1)) rfl ⟨_, rfl, ⟨by first | (simp only [witV, pz_of h.i ho5, rg_of ha15 hb15]; done) | (simp only [witV, pz_of h.i ho5, rg_of ha15 hb15]; rfl), g29⟩⟩
    · have e15 := e15.symm; subst e15
      refine g_if_neN (tgt := 23) (by decide +kernel : decode prog_1_method_33_code 18 = .ok (.ifCond .ne 5, 3)) (by decide) (by decide) (fun h => False.elim (by revert h; decide)) (fun _ => ?_)
      refine g_iconst (v := (-1)) (by decide +kernel : decode prog_1_method_33_code 21 = .ok (.iconst (-1), 1)) (by decide) ?_
      exact g_iret hR (by decide +kernel : decode prog_1_method_33_code 22 = .ok (.ireturn, 1)) rfl ⟨_, rfl, ⟨by first | (simp only [witV, pz_of h.i ho5, rg_none n15]; done) | (simp only [witV, pz_of h.i ho5, rg_none n15]; rfl), h⟩⟩
  · have e5 := e5.symm; subst e5
    refine g_if_eqN (tgt := 21) (by decide +kernel : decode prog_1_method_33_code 8 = .ok (.ifCond .eq 13, 3)) (by decide) (by decide) (fun _ => ?_) (fun h => False.elim (by revert h; decide))
    refine g_iconst (v := (-1)) (by decide +kernel : decode prog_1_method_33_code 21 = .ok (.iconst (-1), 1)) (by decide) ?_
    exact g_iret hR (by decide +kernel : decode prog_1_method_33_code 22 = .ok (.ireturn, 1)) rfl ⟨_, rfl, ⟨by first | (simp only [witV, pz_none h.i n5]; done) | (simp only [witV, pz_none h.i n5]; rfl), h⟩⟩
set_option maxRecDepth 20000 in
theorem k_needed {σ τ : Store} {f : Row} (h : RX σ τ f) (x : Int32) : Ct ΛC mt_LS_needed 7 [.ref 0, .int x] σ (cP τ (needV f x) f) := by
  refine Ct.of (by decide) (Nat.le_of_ble_eq_true rfl) (fun X hR => ?_)
  show G (ΛC, mt_LS_needed, 7) X σ [some (.ref 0), some (.int x)] [] 0
  have hn8 := h.n8
  refine g_aload_n (by decide +kernel : decode prog_1_method_34_code 0 = .ok (.aload_n 0, 1)) rfl ?_
  refine g_getR (by decide +kernel : decode prog_1_method_34_code 1 = .ok (.getfield 20, 3)) fl_LS_20 rfl rfl ?_
  refine g_iload_n (by decide +kernel : decode prog_1_method_34_code 4 = .ok (.iload_n 1, 1)) rfl ?_
  refine g_callVI [.int x] (by decide +kernel : decode prog_1_method_34_code 5 = .ok (.invokevirtual 116, 3)) lk_LS_116 (n_has h.n x) rfl rfl rfl rfl (Nat.le_of_ble_eq_true rfl) (Nat.le_of_ble_eq_true rfl) (fun r5 s5 h5 => ?_)
  rcases h5 with ⟨e5, ⟨rfl, o, ho5, rfl⟩ | ⟨rfl, n5⟩⟩
  · have e5 := e5.symm; subst e5
    refine g_if_eqN (tgt := 22) (by decide +kernel : decode prog_1_method_34_code 8 = .ok (.ifCond .eq 14, 3)) (by decide) (by decide) (fun h => False.elim (by revert h; decide)) (fun _ => ?_)
    refine g_aload_n (by decide +kernel : decode prog_1_method_34_code 11 = .ok (.aload_n 0, 1)) rfl ?_
    refine g_getR (by decide +kernel : decode prog_1_method_34_code 12 = .ok (.getfield 12, 3)) fl_LS_12 rfl rfl ?_
    refine g_iload_n (by decide +kernel : decode prog_1_method_34_code 15 = .ok (.iload_n 1, 1)) rfl ?_
    refine g_callVI [.int (nI o)] (by decide +kernel : decode prog_1_method_34_code 16 = .ok (.invokevirtual 208, 3)) lk_LS_208 (c_mostNeeded h (o := o) (by omega)) rfl rfl rfl rfl (Nat.le_of_ble_eq_true rfl) (Nat.le_of_ble_eq_true rfl) (fun r16 s16 h16 => ?_)
    obtain ⟨rfl, g16⟩ := h16
    refine g_goto (tgt := 23) (by decide +kernel : decode prog_1_method_34_code 19 = .ok (.goto 4, 3)) (by decide) ?_
    exact g_iret hR (by decide +kernel : decode prog_1_method_34_code 23 = .ok (.ireturn, 1)) rfl ⟨_, rfl, ⟨by first | (simp only [needV, pz_of h.i ho5]; done) | (simp only [needV, pz_of h.i ho5]; rfl), g16⟩⟩
  · have e5 := e5.symm; subst e5
    refine g_if_eqN (tgt := 22) (by decide +kernel : decode prog_1_method_34_code 8 = .ok (.ifCond .eq 14, 3)) (by decide) (by decide) (fun _ => ?_) (fun h => False.elim (by revert h; decide))
    refine g_iconst (v := (-1)) (by decide +kernel : decode prog_1_method_34_code 22 = .ok (.iconst (-1), 1)) (by decide) ?_
    exact g_iret hR (by decide +kernel : decode prog_1_method_34_code 23 = .ok (.ireturn, 1)) rfl ⟨_, rfl, ⟨by first | (simp only [needV, pz_none h.i n5]; done) | (simp only [needV, pz_none h.i n5]; rfl), h⟩⟩
set_option maxRecDepth 20000 in
theorem k_fewest {σ τ : Store} {f : Row} (h : RX σ τ f) (x y : Int32) : Ct ΛC mt_LS_fewest 7 [.ref 0, .int x, .int y] σ (cP τ (fewV f x y) f) := by
  refine Ct.of (by decide) (Nat.le_of_ble_eq_true rfl) (fun X hR => ?_)
  show G (ΛC, mt_LS_fewest, 7) X σ [some (.ref 0), some (.int x), some (.int y)] [] 0
  have hn8 := h.n8
  refine g_aload_n (by decide +kernel : decode prog_1_method_35_code 0 = .ok (.aload_n 0, 1)) rfl ?_
  refine g_getR (by decide +kernel : decode prog_1_method_35_code 1 = .ok (.getfield 20, 3)) fl_LS_20 rfl rfl ?_
  refine g_iload_n (by decide +kernel : decode prog_1_method_35_code 4 = .ok (.iload_n 1, 1)) rfl ?_
  refine g_callVI [.int x] (by decide +kernel : decode prog_1_method_35_code 5 = .ok (.invokevirtual 116, 3)) lk_LS_116 (n_has h.n x) rfl rfl rfl rfl (Nat.le_of_ble_eq_true rfl) (Nat.le_of_ble_eq_true rfl) (fun r5 s5 h5 => ?_)
  rcases h5 with ⟨e5, ⟨rfl, o, ho5, rfl⟩ | ⟨rfl, n5⟩⟩
  · have e5 := e5.symm; subst e5
    refine g_if_eqN (tgt := 21) (by decide +kernel : decode prog_1_method_35_code 8 = .ok (.ifCond .eq 13, 3)) (by decide) (by decide) (fun h => False.elim (by revert h; decide)) (fun _ => ?_)
    refine g_iload_n (by decide +kernel : decode prog_1_method_35_code 11 = .ok (.iload_n 2, 1)) rfl ?_
    refine g_iconst (v := nI 1) (by decide +kernel : decode prog_1_method_35_code 12 = .ok (.iconst 1, 1)) (by decide) ?_
    refine g_bipush (v := nI 20) (by decide +kernel : decode prog_1_method_35_code 13 = .ok (.bipush 20, 2)) (by decide) ?_
    refine g_callSI [.int y, .int (nI 1), .int (nI 20)] (by decide +kernel : decode prog_1_method_35_code 15 = .ok (.invokestatic 62, 3)) lk_LS_62 (k_within _ y 1 20) rfl rfl (Nat.le_of_ble_eq_true rfl) (Nat.le_of_ble_eq_true rfl) (fun r15 s15 h15 => ?_)
    rcases h15 with ⟨e15, ⟨rfl, n, ha15, hb15, rfl⟩ | ⟨rfl, n15⟩⟩
    · have e15 := e15.symm; subst e15
      refine g_if_neN (tgt := 23) (by decide +kernel : decode prog_1_method_35_code 18 = .ok (.ifCond .ne 5, 3)) (by decide) (by decide) (fun _ => ?_) (fun h => False.elim (by revert h; decide))
      refine g_aload_n (by decide +kernel : decode prog_1_method_35_code 23 = .ok (.aload_n 0, 1)) rfl ?_
      refine g_getR (by decide +kernel : decode prog_1_method_35_code 24 = .ok (.getfield 12, 3)) fl_LS_12 rfl rfl ?_
      refine g_iload_n (by decide +kernel : decode prog_1_method_35_code 27 = .ok (.iload_n 1, 1)) rfl ?_
      refine g_iload_n (by decide +kernel : decode prog_1_method_35_code 28 = .ok (.iload_n 2, 1)) rfl ?_
      refine g_callVI [.int (nI o), .int (nI n)] (by decide +kernel : decode prog_1_method_35_code 29 = .ok (.invokevirtual 211, 3)) lk_LS_211 (c_fewestFinders h (o := o) (n := n) (by omega) (by omega)) rfl rfl rfl rfl (Nat.le_of_ble_eq_true rfl) (Nat.le_of_ble_eq_true rfl) (fun r29 s29 h29 => ?_)
      obtain ⟨rfl, g29⟩ := h29
      exact g_iret hR (by decide +kernel : decode prog_1_method_35_code 32 = .ok (.ireturn, 1)) rfl ⟨_, rfl, ⟨by first | (simp only [fewV, pz_of h.i ho5, rg_of ha15 hb15]; done) | (simp only [fewV, pz_of h.i ho5, rg_of ha15 hb15]; rfl), g29⟩⟩
    · have e15 := e15.symm; subst e15
      refine g_if_neN (tgt := 23) (by decide +kernel : decode prog_1_method_35_code 18 = .ok (.ifCond .ne 5, 3)) (by decide) (by decide) (fun h => False.elim (by revert h; decide)) (fun _ => ?_)
      refine g_iconst (v := (-1)) (by decide +kernel : decode prog_1_method_35_code 21 = .ok (.iconst (-1), 1)) (by decide) ?_
      exact g_iret hR (by decide +kernel : decode prog_1_method_35_code 22 = .ok (.ireturn, 1)) rfl ⟨_, rfl, ⟨by first | (simp only [fewV, pz_of h.i ho5, rg_none n15]; done) | (simp only [fewV, pz_of h.i ho5, rg_none n15]; rfl), h⟩⟩
  · have e5 := e5.symm; subst e5
    refine g_if_eqN (tgt := 21) (by decide +kernel : decode prog_1_method_35_code 8 = .ok (.ifCond .eq 13, 3)) (by decide) (by decide) (fun _ => ?_) (fun h => False.elim (by revert h; decide))
    refine g_iconst (v := (-1)) (by decide +kernel : decode prog_1_method_35_code 21 = .ok (.iconst (-1), 1)) (by decide) ?_
    exact g_iret hR (by decide +kernel : decode prog_1_method_35_code 22 = .ok (.ireturn, 1)) rfl ⟨_, rfl, ⟨by first | (simp only [fewV, pz_none h.i n5]; done) | (simp only [fewV, pz_none h.i n5]; rfl), h⟩⟩
theorem bk_ne (P x : Nat) : ∀ j p b, b ≠ 0 → bkF P x j p b = b := by
  intro j
  induction j with
  | zero => intro p b _; rfl
  | succ j ih =>
    intro p b h
    show bkF P x j (p + 1) (if b = 0 ∧ _ then _ else b) = b
    rw [if_neg (fun z => h z.1)]
    exact ih _ _ h
theorem bk_no {P x p : Nat} (h : p < 12) (q : (if P.testBit ((x + p) % 12) then 1 else 0) = 0) : bkF P x (12 - (p + 1)) (p + 1) 0 = bkF P x (12 - p) p 0 := by
  rw [bkF_step h, if_neg]
  rintro ⟨-, z⟩
  rw [if_pos z] at q
  exact absurd q (by decide)
theorem bk_yes {P x p : Nat} (h : p < 12) (q : ¬ (if P.testBit ((x + p) % 12) then 1 else 0) = 0) : 12 - p = bkF P x (12 - p) p 0 := by
  have z : P.testBit ((x + p) % 12) = true := by
    cases hz : P.testBit ((x + p) % 12) with
    | true => rfl
    | false => rw [hz] at q; exact absurd rfl q
  rw [bkF_step h, if_pos ⟨rfl, z⟩, bk_ne _ _ _ _ _ (by omega)]
theorem mn_nI {a b : Nat} (ha : a < 2 ^ 31) (hb : b < 2 ^ 31) : (if nI b < nI a then nI b else nI a) = nI (mnN a b) := by
  unfold mnN
  by_cases h : b < a
  · rw [if_pos ((nI_ltI hb ha).mpr h), if_neg (by omega)]
  · rw [if_neg (fun q => h ((nI_ltI hb ha).mp q))]
    by_cases h2 : a < b
    · rw [if_pos h2]
    · rw [if_neg h2, show a = b by omega]
theorem mn_12 (a v : Nat) : mnN (mnN 12 a) v = mnN 12 (mnN a v) := by
  unfold mnN
  repeat' split
  all_goals omega
theorem rn_12 (P x : Nat) : ∀ k, rnF P x (k + 1) ≤ 12 := by
  intro k
  induction k with
  | zero =>
    have h := bkF_le P x 11 1 0 (by decide)
    show mnN 99 (0 + bkF P x 11 1 0 + mnN 0 (bkF P x 11 1 0)) ≤ 12
    have h2 := mnN_le 0 (bkF P x 11 1 0)
    generalize mnN 0 (bkF P x 11 1 0) = m at h2 ⊢
    unfold mnN
    split <;> omega
  | succ k ih => exact Nat.le_trans (mnN_le _ _) ih
theorem mn_r (P x : Nat) : mnN 12 (rnF P x 12) = rnF P x 12 := by
  have h : rnF P x 12 ≤ 12 := rn_12 P x 11
  unfold mnN
  rw [if_neg (by omega)]
set_option maxRecDepth 20000 in
theorem k_steps_in {X : CX} {σ : Store} {x P t on : Nat} (hx : x < 12) (hP : P < 4096) (hK : G (ΛC, mt_LS_stepsRound, 1) X σ [some (.int (nI x)), some (.int (nI P)), some (.int (nI t)), some (.int (nI on)), some (.int (nI (bkF P x (12 - (on + 1)) (on + 1) 0))), none] [] 51) : ∀ (b9 d : Nat), on ≤ d → d ≤ 11 → d < b9 → G (ΛC, mt_LS_stepsRound, 1) X σ [some (.int (nI x)), some (.int (nI P)), some (.int (nI t)), some (.int (nI on)), some (.int (nI (bkF P x (12 - (d + 1)) (d + 1) 0))), some (.int (nI d))] [] 18 := by
  intro b9
  induction b9 with
  | zero => intro d hd hd11 hb; omega
  | succ b9 ih =>
  intro d hd hd11 hb
  refine g_iload (by decide +kernel : decode prog_1_method_37_code 18 = .ok (.iload 5, 2)) rfl ?_
  refine g_iload_n (by decide +kernel : decode prog_1_method_37_code 20 = .ok (.iload_n 3, 1)) rfl ?_
  refine g_icmp_leN (tgt := 51) (by decide +kernel : decode prog_1_method_37_code 21 = .ok (.if_icmp .le 30, 3)) (by decide) (by first | omega | (have h9 := ite1 (P.testBit ((x + (e + 1)) % 12) = true); omega) | (have h9 := bkF_le P x (12 - (d + 1)) (d + 1) 0 (by decide); omega)) (by first | omega | (have h9 := ite1 (P.testBit ((x + (e + 1)) % 12) = true); omega) | (have h9 := bkF_le P x (12 - (d + 1)) (d + 1) 0 (by decide); omega)) (fun h21 => ?_) (fun h21 => ?_)
  · obtain rfl : d = on := by omega
    refine g_sub (L' := [some (.int (nI x)), some (.int (nI P)), some (.int (nI t)), some (.int (nI d)), some (.int (nI (bkF P x (12 - (d + 1)) (d + 1) 0))), none]) ⟨rfl, rfl, rfl, rfl, rfl, trivial⟩ ?_
    exact hK
  · obtain ⟨e, rfl⟩ : ∃ e, d = e + 1 := ⟨d - 1, by omega⟩
    refine g_iload_n (by decide +kernel : decode prog_1_method_37_code 24 = .ok (.iload_n 1, 1)) rfl ?_
    refine g_iload_n (by decide +kernel : decode prog_1_method_37_code 25 = .ok (.iload_n 0, 1)) rfl ?_
    refine g_iload (by decide +kernel : decode prog_1_method_37_code 26 = .ok (.iload 5, 2)) rfl ?_
    refine g_iaddN (by decide +kernel : decode prog_1_method_37_code 28 = .ok (.iadd, 1)) ?_
    refine g_bipush (v := nI 12) (by decide +kernel : decode prog_1_method_37_code 29 = .ok (.bipush 12, 2)) (by decide) ?_
    refine g_iremN (by decide +kernel : decode prog_1_method_37_code 31 = .ok (.irem, 1)) (by first | omega | (have h9 := ite1 (P.testBit ((x + (e + 1)) % 12) = true); omega) | (have h9 := bkF_le P x (12 - (d + 1)) (d + 1) 0 (by decide); omega)) (by decide) (by decide) ?_
    refine g_ishr (by decide +kernel : decode prog_1_method_37_code 32 = .ok (.ishr, 1)) ?_
    refine g_iconst (v := nI 1) (by decide +kernel : decode prog_1_method_37_code 33 = .ok (.iconst 1, 1)) (by decide) ?_
    refine g_iand (by decide +kernel : decode prog_1_method_37_code 34 = .ok (.iand, 1)) ?_
    refine g_top (w := nI (if P.testBit ((x + (e + 1)) % 12) then 1 else 0)) (nI_bit (by omega) (by omega)) ?_
    refine g_if_eqN (tgt := 45) (by decide +kernel : decode prog_1_method_37_code 35 = .ok (.ifCond .eq 10, 3)) (by decide) (by first | omega | (have h9 := ite1 (P.testBit ((x + (e + 1)) % 12) = true); omega) | (have h9 := bkF_le P x (12 - (d + 1)) (d + 1) 0 (by decide); omega)) (fun h35 => ?_) (fun h35 => ?_)
    · refine g_iincD (L' := [some (.int (nI x)), some (.int (nI P)), some (.int (nI t)), some (.int (nI on)), some (.int (nI (bkF P x (12 - ((e + 1) + 1)) ((e + 1) + 1) 0))), some (.int (nI e))]) (by decide +kernel : decode prog_1_method_37_code 45 = .ok (.iinc 5 (-1), 3)) rfl (Nat.le_of_ble_eq_true rfl) rfl ?_
      refine g_goto (tgt := 18) (by decide +kernel : decode prog_1_method_37_code 48 = .ok (.goto (-30), 3)) (by decide) ?_
      refine g_sub (L' := [some (.int (nI x)), some (.int (nI P)), some (.int (nI t)), some (.int (nI on)), some (.int (nI (bkF P x (12 - (e + 1)) (e + 1) 0))), some (.int (nI e))]) ⟨rfl, rfl, rfl, rfl, by rw [bk_no (by omega) h35], rfl, trivial⟩ ?_
      exact ih e (by omega) (by omega) (by omega)
    · refine g_bipush (v := nI 12) (by decide +kernel : decode prog_1_method_37_code 38 = .ok (.bipush 12, 2)) (by decide) ?_
      refine g_iload (by decide +kernel : decode prog_1_method_37_code 40 = .ok (.iload 5, 2)) rfl ?_
      refine g_isubN (by decide +kernel : decode prog_1_method_37_code 42 = .ok (.isub, 1)) (by first | omega | (have h9 := ite1 (P.testBit ((x + (e + 1)) % 12) = true); omega) | (have h9 := bkF_le P x (12 - (d + 1)) (d + 1) 0 (by decide); omega)) ?_
      refine g_istore (L' := [some (.int (nI x)), some (.int (nI P)), some (.int (nI t)), some (.int (nI on)), some (.int (nI (12 - (e + 1)))), some (.int (nI (e + 1)))]) (by decide +kernel : decode prog_1_method_37_code 43 = .ok (.istore 4, 2)) (Nat.le_of_ble_eq_true rfl) rfl ?_
      refine g_iincD (L' := [some (.int (nI x)), some (.int (nI P)), some (.int (nI t)), some (.int (nI on)), some (.int (nI (12 - (e + 1)))), some (.int (nI e))]) (by decide +kernel : decode prog_1_method_37_code 45 = .ok (.iinc 5 (-1), 3)) rfl (Nat.le_of_ble_eq_true rfl) rfl ?_
      refine g_goto (tgt := 18) (by decide +kernel : decode prog_1_method_37_code 48 = .ok (.goto (-30), 3)) (by decide) ?_
      refine g_sub (L' := [some (.int (nI x)), some (.int (nI P)), some (.int (nI t)), some (.int (nI on)), some (.int (nI (bkF P x (12 - (e + 1)) (e + 1) 0))), some (.int (nI e))]) ⟨rfl, rfl, rfl, rfl, by rw [← bk_yes (by omega) h35], rfl, trivial⟩ ?_
      exact ih e (by omega) (by omega) (by omega)
set_option maxRecDepth 20000 in
theorem k_steps_lp {X : CX} {σ : Store} {x P : Nat} (hx : x < 12) (hP : P < 4096) : ∀ (b9 k : Nat), k ≤ 12 → 12 - k < b9 → Rt (ΛC, mt_LS_stepsRound, 1) (PF (nI (rnF P x 12)) σ) X → G (ΛC, mt_LS_stepsRound, 1) X σ [some (.int (nI x)), some (.int (nI P)), some (.int (nI (mnN 12 (rnF P x k)))), some (.int (nI k)), none, none] [] 5 := by
  intro b9
  induction b9 with
  | zero => intro k hk hb hR; omega
  | succ b9 ih =>
  intro k hk hb hR
  have hK : ∀ u, k < 12 → u = bkF P x (12 - (k + 1)) (k + 1) 0 → G (ΛC, mt_LS_stepsRound, 1) X σ [some (.int (nI x)), some (.int (nI P)), some (.int (nI (mnN 12 (rnF P x k)))), some (.int (nI k)), some (.int (nI u)), none] [] 51 := by
    intro u hk12 hu
    have hu12 : u ≤ 12 := by rw [hu]; exact bkF_le _ _ _ _ _ (by decide)
    have hm := mnN_le k u
    have hm2 := mnN_le 12 (rnF P x k)
    refine g_iload_n (by decide +kernel : decode prog_1_method_37_code 51 = .ok (.iload_n 2, 1)) rfl ?_
    refine g_iload_n (by decide +kernel : decode prog_1_method_37_code 52 = .ok (.iload_n 3, 1)) rfl ?_
    refine g_iload (by decide +kernel : decode prog_1_method_37_code 53 = .ok (.iload 4, 2)) rfl ?_
    refine g_iaddN (by decide +kernel : decode prog_1_method_37_code 55 = .ok (.iadd, 1)) ?_
    refine g_iload_n (by decide +kernel : decode prog_1_method_37_code 56 = .ok (.iload_n 3, 1)) rfl ?_
    refine g_iload (by decide +kernel : decode prog_1_method_37_code 57 = .ok (.iload 4, 2)) rfl ?_
    refine g_callSI [.int (nI k), .int (nI u)] (by decide +kernel : decode prog_1_method_37_code 59 = .ok (.invokestatic 217, 3)) lk_LS_217 (m_min ΛC _ (nI (k)) (nI (u))) rfl rfl (Nat.le_of_ble_eq_true rfl) (Nat.le_of_ble_eq_true rfl) (fun r59 s59 h59 => ?_)
    obtain ⟨rfl, e59⟩ := h59
    have e59 := e59.symm; subst e59
    refine g_top (w := nI (mnN (k) (u))) (mn_nI (by omega) (by omega)) ?_
    refine g_iaddN (by decide +kernel : decode prog_1_method_37_code 62 = .ok (.iadd, 1)) ?_
    refine g_callSI [.int (nI (mnN 12 (rnF P x k))), .int (nI (k + u + mnN (k) (u)))] (by decide +kernel : decode prog_1_method_37_code 63 = .ok (.invokestatic 217, 3)) lk_LS_217 (m_min ΛC _ (nI (mnN 12 (rnF P x k))) (nI (k + u + mnN (k) (u)))) rfl rfl (Nat.le_of_ble_eq_true rfl) (Nat.le_of_ble_eq_true rfl) (fun r63 s63 h63 => ?_)
    obtain ⟨rfl, e63⟩ := h63
    have e63 := e63.symm; subst e63
    refine g_top (w := nI (mnN (mnN 12 (rnF P x k)) (k + u + mnN (k) (u)))) (mn_nI (by omega) (by omega)) ?_
    refine g_istore_n (L' := [some (.int (nI x)), some (.int (nI P)), some (.int (nI (mnN (mnN 12 (rnF P x k)) (k + u + mnN (k) (u))))), some (.int (nI k)), some (.int (nI u)), none]) (by decide +kernel : decode prog_1_method_37_code 66 = .ok (.istore_n 2, 1)) (Nat.le_of_ble_eq_true rfl) rfl ?_
    refine g_iincN (n := 1) (L' := [some (.int (nI x)), some (.int (nI P)), some (.int (nI (mnN (mnN 12 (rnF P x k)) (k + u + mnN (k) (u))))), some (.int (nI (k + 1))), some (.int (nI u)), none]) (by decide +kernel : decode prog_1_method_37_code 67 = .ok (.iinc 3 1, 3)) rfl (by decide) (Nat.le_of_ble_eq_true rfl) rfl ?_
    refine g_goto (tgt := 5) (by decide +kernel : decode prog_1_method_37_code 70 = .ok (.goto (-65), 3)) (by decide) ?_
    subst hu
    refine g_sub (L' := [some (.int (nI x)), some (.int (nI P)), some (.int (nI (mnN 12 (rnF P x (k + 1))))), some (.int (nI (k + 1))), none, none]) ⟨rfl, rfl, by rw [mn_12]; rfl, rfl, trivial⟩ ?_
    exact ih (k + 1) (by omega) (by omega) hR
  refine g_iload_n (by decide +kernel : decode prog_1_method_37_code 5 = .ok (.iload_n 3, 1)) rfl ?_
  refine g_bipush (v := nI 12) (by decide +kernel : decode prog_1_method_37_code 6 = .ok (.bipush 12, 2)) (by decide) ?_
  refine g_icmp_geN (tgt := 73) (by decide +kernel : decode prog_1_method_37_code 8 = .ok (.if_icmp .ge 65, 3)) (by decide) (by omega) (by decide) (fun h8 => ?_) (fun h8 => ?_)
  · refine g_iload_n (by decide +kernel : decode prog_1_method_37_code 73 = .ok (.iload_n 2, 1)) rfl ?_
    obtain rfl : k = 12 := by omega
    exact g_iret hR (by decide +kernel : decode prog_1_method_37_code 74 = .ok (.ireturn, 1)) rfl ⟨_, rfl, by rw [mn_r], rfl⟩
  · refine g_iconst (v := nI 0) (by decide +kernel : decode prog_1_method_37_code 11 = .ok (.iconst 0, 1)) (by decide) ?_
    refine g_istore (L' := [some (.int (nI x)), some (.int (nI P)), some (.int (nI (mnN 12 (rnF P x k)))), some (.int (nI k)), some (.int (nI 0)), none]) (by decide +kernel : decode prog_1_method_37_code 12 = .ok (.istore 4, 2)) (Nat.le_of_ble_eq_true rfl) rfl ?_
    refine g_bipush (v := nI 11) (by decide +kernel : decode prog_1_method_37_code 14 = .ok (.bipush 11, 2)) (by decide) ?_
    refine g_istore (L' := [some (.int (nI x)), some (.int (nI P)), some (.int (nI (mnN 12 (rnF P x k)))), some (.int (nI k)), some (.int (nI 0)), some (.int (nI 11))]) (by decide +kernel : decode prog_1_method_37_code 16 = .ok (.istore 5, 2)) (Nat.le_of_ble_eq_true rfl) rfl ?_
    refine g_sub (L' := [some (.int (nI x)), some (.int (nI P)), some (.int (nI (mnN 12 (rnF P x k)))), some (.int (nI k)), some (.int (nI (bkF P x (12 - (11 + 1)) (11 + 1) 0))), some (.int (nI 11))]) ⟨rfl, rfl, rfl, rfl, by rfl, rfl, trivial⟩ ?_
    exact k_steps_in hx hP (hK _ (by omega) rfl) 12 11 (by omega) (by omega) (by omega)
set_option maxRecDepth 20000 in
theorem k_stepsRound (σ : Store) {x P : Nat} (hx : x < 12) (hP : P < 4096) : Ct ΛC mt_LS_stepsRound 1 [.int (nI x), .int (nI P)] σ (PF (nI (rnF P x 12)) σ) := by
  refine Ct.of (by decide) (Nat.le_of_ble_eq_true rfl) (fun X hR => ?_)
  show G (ΛC, mt_LS_stepsRound, 1) X σ [some (.int (nI x)), some (.int (nI P)), none, none, none, none] [] 0
  refine g_bipush (v := nI 12) (by decide +kernel : decode prog_1_method_37_code 0 = .ok (.bipush 12, 2)) (by decide) ?_
  refine g_istore_n (L' := [some (.int (nI x)), some (.int (nI P)), some (.int (nI 12)), none, none, none]) (by decide +kernel : decode prog_1_method_37_code 2 = .ok (.istore_n 2, 1)) (Nat.le_of_ble_eq_true rfl) rfl ?_
  refine g_iconst (v := nI 0) (by decide +kernel : decode prog_1_method_37_code 3 = .ok (.iconst 0, 1)) (by decide) ?_
  refine g_istore_n (L' := [some (.int (nI x)), some (.int (nI P)), some (.int (nI 12)), some (.int (nI 0)), none, none]) (by decide +kernel : decode prog_1_method_37_code 4 = .ok (.istore_n 3, 1)) (Nat.le_of_ble_eq_true rfl) rfl ?_
  refine g_sub (L' := [some (.int (nI x)), some (.int (nI P)), some (.int (nI (mnN 12 (rnF P x 0)))), some (.int (nI 0)), none, none]) ⟨rfl, rfl, rfl, rfl, trivial⟩ ?_
  exact k_steps_lp hx hP 13 0 (by omega) (by omega) hR
set_option maxRecDepth 20000 in
theorem k_round {σ τ : Store} {f : Row} (h : RX σ τ f) (x : Int32) : Ct ΛC mt_LS_round 2 [.ref 0, .int x] σ (cP τ (roundV f x) f) := by
  refine Ct.of (by decide) (Nat.le_of_ble_eq_true rfl) (fun X hR => ?_)
  show G (ΛC, mt_LS_round, 2) X σ [some (.ref 0), some (.int x)] [] 0
  have hn8 := h.n8
  refine g_iload_n (by decide +kernel : decode prog_1_method_36_code 0 = .ok (.iload_n 1, 1)) rfl ?_
  refine g_callSI [.int x] (by decide +kernel : decode prog_1_method_36_code 1 = .ok (.invokestatic 109, 3)) lk_LS_109 (k_isPlace _ x) rfl rfl (Nat.le_of_ble_eq_true rfl) (Nat.le_of_ble_eq_true rfl) (fun r1 s1 h1 => ?_)
  rcases h1 with ⟨e1, ⟨rfl, p, ha1, hb1, rfl⟩ | ⟨rfl, n1⟩⟩
  · have e1 := e1.symm; subst e1
    refine g_if_eqN (tgt := 21) (by decide +kernel : decode prog_1_method_36_code 4 = .ok (.ifCond .eq 17, 3)) (by decide) (by decide) (fun h => False.elim (by revert h; decide)) (fun _ => ?_)
    refine g_iload_n (by decide +kernel : decode prog_1_method_36_code 7 = .ok (.iload_n 1, 1)) rfl ?_
    refine g_aload_n (by decide +kernel : decode prog_1_method_36_code 8 = .ok (.aload_n 0, 1)) rfl ?_
    refine g_getR (by decide +kernel : decode prog_1_method_36_code 9 = .ok (.getfield 20, 3)) fl_LS_20 rfl rfl ?_
    refine g_callVI [] (by decide +kernel : decode prog_1_method_36_code 12 = .ok (.invokevirtual 186, 3)) lk_LS_186 (n_hidingPlaces h.n) rfl rfl rfl rfl (Nat.le_of_ble_eq_true rfl) (Nat.le_of_ble_eq_true rfl) (fun r12 s12 h12 => ?_)
    obtain ⟨rfl, e12⟩ := h12
    have e12 := e12.symm; subst e12
    refine g_callSI [.int (nI p), .int (nI (hpl f (nn f)))] (by decide +kernel : decode prog_1_method_36_code 15 = .ok (.invokestatic 214, 3)) lk_LS_214 (k_stepsRound _ (x := p) (P := hpl f (nn f)) (by omega) (hpl_lt h.i _ (Nat.le_refl _))) rfl rfl (Nat.le_of_ble_eq_true rfl) (Nat.le_of_ble_eq_true rfl) (fun r15 s15 h15 => ?_)
    obtain ⟨rfl, e15⟩ := h15
    have e15 := e15.symm; subst e15
    refine g_goto (tgt := 22) (by decide +kernel : decode prog_1_method_36_code 18 = .ok (.goto 4, 3)) (by decide) ?_
    exact g_iret hR (by decide +kernel : decode prog_1_method_36_code 22 = .ok (.ireturn, 1)) rfl ⟨_, rfl, ⟨by first | (simp only [roundV, rg_of ha1 hb1]; done) | (simp only [roundV, rg_of ha1 hb1]; rfl), h⟩⟩
  · have e1 := e1.symm; subst e1
    refine g_if_eqN (tgt := 21) (by decide +kernel : decode prog_1_method_36_code 4 = .ok (.ifCond .eq 17, 3)) (by decide) (by decide) (fun _ => ?_) (fun h => False.elim (by revert h; decide))
    refine g_iconst (v := (-1)) (by decide +kernel : decode prog_1_method_36_code 21 = .ok (.iconst (-1), 1)) (by decide) ?_
    exact g_iret hR (by decide +kernel : decode prog_1_method_36_code 22 = .ok (.ireturn, 1)) rfl ⟨_, rfl, ⟨by first | (simp only [roundV, rg_none n1]; done) | (simp only [roundV, rg_none n1]; rfl), h⟩⟩
set_option maxRecDepth 20000 in
theorem k_fits_out {X : CX} {σ τ : Store} {f : Row} {o t w : Nat} {P : Nat → Bool} (hw : w ≤ 1) (h : RX σ τ f) (hR : Rt (ΛC, mt_LS_fits, 5) (cP τ (if w = 0 then nI (ftF P 10).1 else (ftF P 10).2) f) X) : G (ΛC, mt_LS_fits, 5) X σ [some (.ref 0), some (.int (nI t)), some (.int (nI o)), some (.int (nI w)), some (.int (nI ((ftF P 10).1))), some (.int ((ftF P 10).2)), some (.int (-1))] [] 54 := by
  refine g_iload (by decide +kernel : decode prog_1_method_38_code 54 = .ok (.iload 6, 2)) rfl ?_
  refine g_if_lt (tgt := 90) (by decide +kernel : decode prog_1_method_38_code 56 = .ok (.ifCond .lt 34, 3)) (by decide) (fun _ => ?_) (fun h => False.elim (by revert h; decide))
  refine g_iload_n (by decide +kernel : decode prog_1_method_38_code 90 = .ok (.iload_n 3, 1)) rfl ?_
  refine g_if_neN (tgt := 99) (by decide +kernel : decode prog_1_method_38_code 91 = .ok (.ifCond .ne 8, 3)) (by decide) (by omega) (fun h91 => ?_) (fun h91 => ?_)
  · refine g_iload (by decide +kernel : decode prog_1_method_38_code 99 = .ok (.iload 5, 2)) rfl ?_
    exact g_iret hR (by decide +kernel : decode prog_1_method_38_code 101 = .ok (.ireturn, 1)) rfl ⟨_, rfl, by rw [if_neg (by omega)], h⟩
  · refine g_iload (by decide +kernel : decode prog_1_method_38_code 94 = .ok (.iload 4, 2)) rfl ?_
    refine g_goto (tgt := 101) (by decide +kernel : decode prog_1_method_38_code 96 = .ok (.goto 5, 3)) (by decide) ?_
    exact g_iret hR (by decide +kernel : decode prog_1_method_38_code 101 = .ok (.ireturn, 1)) rfl ⟨_, rfl, by rw [if_pos (by omega)], h⟩
theorem nI_pr1 (j : Nat) : nI (j + 1) + (-1) = nI j := by
  rw [← nI_add, Int32.add_assoc, show nI 1 + (-1) = (0 : Int32) by decide, Int32.add_zero]
set_option maxRecDepth 20000 in
theorem k_fits_lp {X : CX} {τ : Store} {f : Row} {o : Nat} (ho : o < nn f) {t n w : Nat} (ht : t < 4) (e9 : τ 9 t = nI n) (hn : n ≤ 40) (hw : w ≤ 1) {P : Nat → Bool} (hP : P = (fun v => tld (upd f (19 + 6 * o + 2) (nI v)) o (τ 10) (40 * t) n 0)) : ∀ (b9 j c : Nat) (σ : Store), j + c = 9 → RX σ τ f → j < b9 → Rt (ΛC, mt_LS_fits, 5) (cP τ (if w = 0 then nI (ftF P 10).1 else (ftF P 10).2) f) X → G (ΛC, mt_LS_fits, 5) X σ [some (.ref 0), some (.int (nI t)), some (.int (nI o)), some (.int (nI w)), some (.int (nI ((ftF P c).1))), some (.int ((ftF P c).2)), some (.int (nI j))] [] 54 := by
  intro b9
  induction b9 with
  | zero => intro j c σ hj h hb hR; omega
  | succ b9 ih =>
  intro j c σ hj h hb hR
  have hc9 := ftF_le P c
  refine g_iload (by decide +kernel : decode prog_1_method_38_code 54 = .ok (.iload 6, 2)) rfl ?_
  refine g_if_ltN (by decide +kernel : decode prog_1_method_38_code 56 = .ok (.ifCond .lt 34, 3)) (by decide) (by omega) ?_
  refine g_aload_n (by decide +kernel : decode prog_1_method_38_code 59 = .ok (.aload_n 0, 1)) rfl ?_
  refine g_getR (by decide +kernel : decode prog_1_method_38_code 60 = .ok (.getfield 12, 3)) fl_LS_12 rfl rfl ?_
  refine g_iload_n (by decide +kernel : decode prog_1_method_38_code 63 = .ok (.iload_n 2, 1)) rfl ?_
  refine g_iload (by decide +kernel : decode prog_1_method_38_code 64 = .ok (.iload 6, 2)) rfl ?_
  refine g_aload_n (by decide +kernel : decode prog_1_method_38_code 66 = .ok (.aload_n 0, 1)) rfl ?_
  refine g_getR (by decide +kernel : decode prog_1_method_38_code 67 = .ok (.getfield 44, 3)) fl_LS_44 rfl rfl ?_
  refine g_iload_n (by decide +kernel : decode prog_1_method_38_code 70 = .ok (.iload_n 1, 1)) rfl ?_
  refine g_callVI [.int (nI o), .int (nI j), .ref 33, .int (nI t)] (by decide +kernel : decode prog_1_method_38_code 71 = .ok (.invokevirtual 228, 3)) lk_LS_228 (c_wouldFit h (o := o) (v := j) (t := t) (n := n) ho (by omega) ht e9 hn) rfl rfl rfl rfl (Nat.le_of_ble_eq_true rfl) (Nat.le_of_ble_eq_true rfl) (fun r71 s71 h71 => ?_)
  rcases h71 with ⟨g71, ⟨rfl, q71⟩ | ⟨rfl, q71⟩⟩
  · refine g_if_eqN (tgt := 84) (by decide +kernel : decode prog_1_method_38_code 74 = .ok (.ifCond .eq 10, 3)) (by decide) (by decide) (fun h => False.elim (by revert h; decide)) (fun _ => ?_)
    refine g_iincN (n := 1) (L' := [some (.ref 0), some (.int (nI t)), some (.int (nI o)), some (.int (nI w)), some (.int (nI ((ftF P c).1 + 1))), some (.int ((ftF P c).2)), some (.int (nI j))]) (by decide +kernel : decode prog_1_method_38_code 77 = .ok (.iinc 4 1, 3)) rfl (by decide) (Nat.le_of_ble_eq_true rfl) rfl ?_
    refine g_iload (by decide +kernel : decode prog_1_method_38_code 80 = .ok (.iload 6, 2)) rfl ?_
    refine g_istore (L' := [some (.ref 0), some (.int (nI t)), some (.int (nI o)), some (.int (nI w)), some (.int (nI ((ftF P c).1 + 1))), some (.int (nI j)), some (.int (nI j))]) (by decide +kernel : decode prog_1_method_38_code 82 = .ok (.istore 5, 2)) (Nat.le_of_ble_eq_true rfl) rfl ?_
    refine g_iinc (v := (nI j) + (-1)) (L' := [some (.ref 0), some (.int (nI t)), some (.int (nI o)), some (.int (nI w)), some (.int (nI ((ftF P c).1 + 1))), some (.int (nI j)), some (.int ((nI j) + (-1)))]) (by decide +kernel : decode prog_1_method_38_code 84 = .ok (.iinc 6 (-1), 3)) rfl rfl (Nat.le_of_ble_eq_true rfl) rfl ?_
    refine g_goto (tgt := 54) (by decide +kernel : decode prog_1_method_38_code 87 = .ok (.goto (-33), 3)) (by decide) ?_
    have qP : P (9 - c) = true := by rw [show 9 - c = j by omega, hP]; exact q71
    have e1 : (ftF P (c + 1)).1 = (ftF P c).1 + 1 := by rw [ft_1, qP]; rfl
    have e2 : (ftF P (c + 1)).2 = nI j := by rw [ft_2, qP, show 9 - c = j by omega]; rfl
    cases j with
    | zero =>
      obtain rfl : c = 9 := by omega
      refine g_sub (L' := [some (.ref 0), some (.int (nI t)), some (.int (nI o)), some (.int (nI w)), some (.int (nI ((ftF P 10).1))), some (.int ((ftF P 10).2)), some (.int (-1))]) ⟨rfl, rfl, rfl, rfl, by rw [e1], by rw [e2], by decide, trivial⟩ ?_
      exact k_fits_out hw g71 hR
    | succ j =>
      refine g_sub (L' := [some (.ref 0), some (.int (nI t)), some (.int (nI o)), some (.int (nI w)), some (.int (nI ((ftF P (c + 1)).1))), some (.int ((ftF P (c + 1)).2)), some (.int (nI j))]) ⟨rfl, rfl, rfl, rfl, by rw [e1], by rw [e2], by rw [nI_pr1], trivial⟩ ?_
      exact ih j (c + 1) _ (by omega) g71 (by omega) hR
  · refine g_if_eqN (tgt := 84) (by decide +kernel : decode prog_1_method_38_code 74 = .ok (.ifCond .eq 10, 3)) (by decide) (by decide) (fun _ => ?_) (fun h => False.elim (by revert h; decide))
    refine g_iinc (v := (nI j) + (-1)) (L' := [some (.ref 0), some (.int (nI t)), some (.int (nI o)), some (.int (nI w)), some (.int (nI ((ftF P c).1))), some (.int ((ftF P c).2)), some (.int ((nI j) + (-1)))]) (by decide +kernel : decode prog_1_method_38_code 84 = .ok (.iinc 6 (-1), 3)) rfl rfl (Nat.le_of_ble_eq_true rfl) rfl ?_
    refine g_goto (tgt := 54) (by decide +kernel : decode prog_1_method_38_code 87 = .ok (.goto (-33), 3)) (by decide) ?_
    have qP : P (9 - c) = false := by rw [show 9 - c = j by omega, hP]; exact Bool.eq_false_iff.mpr q71
    have e1 : (ftF P (c + 1)).1 = (ftF P c).1 := by rw [ft_1, qP]; rfl
    have e2 : (ftF P (c + 1)).2 = (ftF P c).2 := by rw [ft_2, qP]; rfl
    cases j with
    | zero =>
      obtain rfl : c = 9 := by omega
      refine g_sub (L' := [some (.ref 0), some (.int (nI t)), some (.int (nI o)), some (.int (nI w)), some (.int (nI ((ftF P 10).1))), some (.int ((ftF P 10).2)), some (.int (-1))]) ⟨rfl, rfl, rfl, rfl, by rw [e1], by rw [e2], by decide, trivial⟩ ?_
      exact k_fits_out hw g71 hR
    | succ j =>
      refine g_sub (L' := [some (.ref 0), some (.int (nI t)), some (.int (nI o)), some (.int (nI w)), some (.int (nI ((ftF P (c + 1)).1))), some (.int ((ftF P (c + 1)).2)), some (.int (nI j))]) ⟨rfl, rfl, rfl, rfl, by rw [e1], by rw [e2], by rw [nI_pr1], trivial⟩ ?_
      exact ih j (c + 1) _ (by omega) g71 (by omega) hR
theorem sh_sort {σ τ : Store} {f : Row} (h : RX σ τ f) {t : Nat} (ht : t < 4) (q : ¬ σ 34 t = -1) : ∃ s, s ≤ 3 ∧ τ 8 t = nI s := by
  rcases (h.s0 t ht).1 with e | ⟨s, hs, e⟩
  · exact absurd ((h.s1 ht).trans e) q
  · exact ⟨s, hs, e⟩
theorem sh_size {σ τ : Store} {f : Row} (h : RX σ τ f) {t : Nat} (ht : t < 4) : ∃ n, n ≤ 40 ∧ τ 9 t = nI n := (h.s0 t ht).2
set_option maxRecDepth 20000 in
theorem k_fits {σ τ : Store} {f : Row} (h : RX σ τ f) (x y z : Int32) : Ct ΛC mt_LS_fits 5 [.ref 0, .int x, .int y, .int z] σ (cP τ (fitsV τ f x y z) f) := by
  refine Ct.of (by decide) (Nat.le_of_ble_eq_true rfl) (fun X hR => ?_)
  show G (ΛC, mt_LS_fits, 5) X σ [some (.ref 0), some (.int x), some (.int y), some (.int z), none, none, none] [] 0
  have hn8 := h.n8
  refine g_iload_n (by decide +kernel : decode prog_1_method_38_code 0 = .ok (.iload_n 1, 1)) rfl ?_
  refine g_callSI [.int x] (by decide +kernel : decode prog_1_method_38_code 1 = .ok (.invokestatic 222, 3)) lk_LS_222 (k_isSheet _ x) rfl rfl (Nat.le_of_ble_eq_true rfl) (Nat.le_of_ble_eq_true rfl) (fun r1 s1 h1 => ?_)
  rcases h1 with ⟨e1, ⟨rfl, t, ha1, hb1, rfl⟩ | ⟨rfl, n1⟩⟩
  · have e1 := e1.symm; subst e1
    refine g_if_eqN (tgt := 27) (by decide +kernel : decode prog_1_method_38_code 4 = .ok (.ifCond .eq 23, 3)) (by decide) (by decide) (fun h => False.elim (by revert h; decide)) (fun _ => ?_)
    refine g_aload_n (by decide +kernel : decode prog_1_method_38_code 7 = .ok (.aload_n 0, 1)) rfl ?_
    refine g_getR (by decide +kernel : decode prog_1_method_38_code 8 = .ok (.getfield 20, 3)) fl_LS_20 rfl rfl ?_
    refine g_iload_n (by decide +kernel : decode prog_1_method_38_code 11 = .ok (.iload_n 2, 1)) rfl ?_
    refine g_callVI [.int y] (by decide +kernel : decode prog_1_method_38_code 12 = .ok (.invokevirtual 116, 3)) lk_LS_116 (n_has h.n y) rfl rfl rfl rfl (Nat.le_of_ble_eq_true rfl) (Nat.le_of_ble_eq_true rfl) (fun r12 s12 h12 => ?_)
    rcases h12 with ⟨e12, ⟨rfl, o, ho12, rfl⟩ | ⟨rfl, n12⟩⟩
    · have e12 := e12.symm; subst e12
      refine g_if_eqN (tgt := 27) (by decide +kernel : decode prog_1_method_38_code 15 = .ok (.ifCond .eq 12, 3)) (by decide) (by decide) (fun h => False.elim (by revert h; decide)) (fun _ => ?_)
      refine g_iload_n (by decide +kernel : decode prog_1_method_38_code 18 = .ok (.iload_n 3, 1)) rfl ?_
      refine g_iconst (v := nI 0) (by decide +kernel : decode prog_1_method_38_code 19 = .ok (.iconst 0, 1)) (by decide) ?_
      refine g_iconst (v := nI 1) (by decide +kernel : decode prog_1_method_38_code 20 = .ok (.iconst 1, 1)) (by decide) ?_
      refine g_callSI [.int z, .int (nI 0), .int (nI 1)] (by decide +kernel : decode prog_1_method_38_code 21 = .ok (.invokestatic 62, 3)) lk_LS_62 (k_within _ z 0 1) rfl rfl (Nat.le_of_ble_eq_true rfl) (Nat.le_of_ble_eq_true rfl) (fun r21 s21 h21 => ?_)
      rcases h21 with ⟨e21, ⟨rfl, w, ha21, hb21, rfl⟩ | ⟨rfl, n21⟩⟩
      · have e21 := e21.symm; subst e21
        refine g_if_neN (tgt := 29) (by decide +kernel : decode prog_1_method_38_code 24 = .ok (.ifCond .ne 5, 3)) (by decide) (by decide) (fun _ => ?_) (fun h => False.elim (by revert h; decide))
        refine g_aload_n (by decide +kernel : decode prog_1_method_38_code 29 = .ok (.aload_n 0, 1)) rfl ?_
        refine g_getR (by decide +kernel : decode prog_1_method_38_code 30 = .ok (.getfield 44, 3)) fl_LS_44 rfl rfl ?_
        refine g_iload_n (by decide +kernel : decode prog_1_method_38_code 33 = .ok (.iload_n 1, 1)) rfl ?_
        refine g_callVI [.int (nI t)] (by decide +kernel : decode prog_1_method_38_code 34 = .ok (.invokevirtual 225, 3)) lk_LS_225 (c_isMissing _ (t := t) (by omega)) rfl rfl rfl rfl (Nat.le_of_ble_eq_true rfl) (Nat.le_of_ble_eq_true rfl) (fun r34 s34 h34 => ?_)
        rcases h34 with ⟨e34, ⟨rfl, q34⟩ | ⟨rfl, q34⟩⟩
        · have e34 := e34.symm; subst e34
          refine g_if_eqN (tgt := 43) (by decide +kernel : decode prog_1_method_38_code 37 = .ok (.ifCond .eq 6, 3)) (by decide) (by decide) (fun h => False.elim (by revert h; decide)) (fun _ => ?_)
          refine g_bipush (v := (-11)) (by decide +kernel : decode prog_1_method_38_code 40 = .ok (.bipush (-11), 2)) (by decide) ?_
          exact g_iret hR (by decide +kernel : decode prog_1_method_38_code 42 = .ok (.ireturn, 1)) rfl ⟨_, rfl, ⟨by first | (simp only [fitsV, rg_of ha1 hb1, pz_of h.i ho12, rg_of ha21 hb21, neg8 ((h.s1 (t := t) (by omega)).symm.trans q34)]; done) | (simp only [fitsV, rg_of ha1 hb1, pz_of h.i ho12, rg_of ha21 hb21, neg8 ((h.s1 (t := t) (by omega)).symm.trans q34)]; rfl), h⟩⟩
        · have e34 := e34.symm; subst e34
          obtain ⟨sk, hsk, es⟩ := sh_sort h (t := t) (by omega) q34
          obtain ⟨sn, hsn, en⟩ := sh_size h (t := t) (by omega)
          refine g_if_eqN (tgt := 43) (by decide +kernel : decode prog_1_method_38_code 37 = .ok (.ifCond .eq 6, 3)) (by decide) (by decide) (fun _ => ?_) (fun h => False.elim (by revert h; decide))
          refine g_iconst (v := nI 0) (by decide +kernel : decode prog_1_method_38_code 43 = .ok (.iconst 0, 1)) (by decide) ?_
          refine g_istore (L' := [some (.ref 0), some (.int (nI t)), some (.int (nI o)), some (.int (nI w)), some (.int (nI 0)), none, none]) (by decide +kernel : decode prog_1_method_38_code 44 = .ok (.istore 4, 2)) (Nat.le_of_ble_eq_true rfl) rfl ?_
          refine g_bipush (v := (-3)) (by decide +kernel : decode prog_1_method_38_code 46 = .ok (.bipush (-3), 2)) (by decide) ?_
          refine g_istore (L' := [some (.ref 0), some (.int (nI t)), some (.int (nI o)), some (.int (nI w)), some (.int (nI 0)), some (.int (-3)), none]) (by decide +kernel : decode prog_1_method_38_code 48 = .ok (.istore 5, 2)) (Nat.le_of_ble_eq_true rfl) rfl ?_
          refine g_bipush (v := nI 9) (by decide +kernel : decode prog_1_method_38_code 50 = .ok (.bipush 9, 2)) (by decide) ?_
          refine g_istore (L' := [some (.ref 0), some (.int (nI t)), some (.int (nI o)), some (.int (nI w)), some (.int (nI 0)), some (.int (-3)), some (.int (nI 9))]) (by decide +kernel : decode prog_1_method_38_code 52 = .ok (.istore 6, 2)) (Nat.le_of_ble_eq_true rfl) rfl ?_
          refine g_sub (L' := [some (.ref 0), some (.int (nI t)), some (.int (nI o)), some (.int (nI w)), some (.int (nI ((ftF (fun v => tld (upd f (19 + 6 * o + 2) (nI v)) o (τ 10) (40 * t) sn 0) 0).1))), some (.int ((ftF (fun v => tld (upd f (19 + 6 * o + 2) (nI v)) o (τ 10) (40 * t) sn 0) 0).2)), some (.int (nI 9))]) ⟨rfl, rfl, rfl, rfl, rfl, rfl, rfl, trivial⟩ ?_
          refine k_fits_lp (P := fun v => tld (upd f (19 + 6 * o + 2) (nI v)) o (τ 10) (40 * t) sn 0) (by omega) (by omega) en hsn (by omega) rfl 10 9 0 σ (by omega) h (by omega) ?_
          have eV : fitsV τ f (nI t) (nI o) (nI w) = if w = 0 then nI (ftF (fun v => tld (upd f (19 + 6 * o + 2) (nI v)) o (τ 10) (40 * t) sn 0) 10).1 else (ftF (fun v => tld (upd f (19 + 6 * o + 2) (nI v)) o (τ 10) (40 * t) sn 0) 10).2 := by simp only [fitsV, rg_of ha1 hb1, pz_of h.i ho12, rg_of ha21 hb21, pos8 (by omega) es]; rw [en, tn_nI (by omega)]
          rw [← eV]
          exact hR
      · have e21 := e21.symm; subst e21
        refine g_if_neN (tgt := 29) (by decide +kernel : decode prog_1_method_38_code 24 = .ok (.ifCond .ne 5, 3)) (by decide) (by decide) (fun h => False.elim (by revert h; decide)) (fun _ => ?_)
        refine g_iconst (v := (-1)) (by decide +kernel : decode prog_1_method_38_code 27 = .ok (.iconst (-1), 1)) (by decide) ?_
        exact g_iret hR (by decide +kernel : decode prog_1_method_38_code 28 = .ok (.ireturn, 1)) rfl ⟨_, rfl, ⟨by first | (simp only [fitsV, rg_of ha1 hb1, pz_of h.i ho12, rg_none n21]; done) | (simp only [fitsV, rg_of ha1 hb1, pz_of h.i ho12, rg_none n21]; rfl), h⟩⟩
    · have e12 := e12.symm; subst e12
      refine g_if_eqN (tgt := 27) (by decide +kernel : decode prog_1_method_38_code 15 = .ok (.ifCond .eq 12, 3)) (by decide) (by decide) (fun _ => ?_) (fun h => False.elim (by revert h; decide))
      refine g_iconst (v := (-1)) (by decide +kernel : decode prog_1_method_38_code 27 = .ok (.iconst (-1), 1)) (by decide) ?_
      exact g_iret hR (by decide +kernel : decode prog_1_method_38_code 28 = .ok (.ireturn, 1)) rfl ⟨_, rfl, ⟨by first | (simp only [fitsV, rg_of ha1 hb1, pz_none h.i n12]; done) | (simp only [fitsV, rg_of ha1 hb1, pz_none h.i n12]; rfl), h⟩⟩
  · have e1 := e1.symm; subst e1
    refine g_if_eqN (tgt := 27) (by decide +kernel : decode prog_1_method_38_code 4 = .ok (.ifCond .eq 23, 3)) (by decide) (by decide) (fun _ => ?_) (fun h => False.elim (by revert h; decide))
    refine g_iconst (v := (-1)) (by decide +kernel : decode prog_1_method_38_code 27 = .ok (.iconst (-1), 1)) (by decide) ?_
    exact g_iret hR (by decide +kernel : decode prog_1_method_38_code 28 = .ok (.ireturn, 1)) rfl ⟨_, rfl, ⟨by first | (simp only [fitsV, rg_none n1]; done) | (simp only [fitsV, rg_none n1]; rfl), h⟩⟩
abbrev cPL (τ : Store) (v : Int64) (f : Row) : Option Value → Store → Prop := PL (fun r σ' => r = v ∧ RX σ' τ f)
theorem eu_step {a b t : Nat} (hb : b ≠ 0) (h1 : t = 0 ∨ b ≤ a) (h2 : a * b < 2 ^ (127 - t)) (h3 : t = 0 → a * b < 2 ^ 126) : b * (a % b) < 2 ^ (127 - (t + 1)) := by
  have hm : a % b < b := Nat.mod_lt _ (by omega)
  by_cases h0 : t = 0
  · subst h0
    exact Nat.lt_of_le_of_lt (by rw [Nat.mul_comm a b]; exact Nat.mul_le_mul_left _ (Nat.mod_le _ _)) (h3 rfl)
  · have hba : b ≤ a := by omega
    have hq : 1 ≤ a / b := (Nat.one_le_div_iff (by omega)).mpr hba
    have hd : b * (a / b) + a % b = a := Nat.div_add_mod a b
    have hb2 : b * 1 ≤ b * (a / b) := Nat.mul_le_mul_left _ hq
    have h4 : 2 * (a % b) ≤ a := by omega
    have h5 : 2 * (b * (a % b)) ≤ a * b := by
      rw [← Nat.mul_assoc, Nat.mul_comm 2 b, Nat.mul_assoc, Nat.mul_comm a b]
      exact Nat.mul_le_mul_left _ h4
    by_cases ht : t < 127
    · have e : 127 - t = (127 - (t + 1)) + 1 := by omega
      rw [e, Nat.pow_succ] at h2
      omega
    · have e : 127 - t = 0 := by omega
      have e2 : 127 - (t + 1) = 0 := by omega
      rw [e] at h2
      rw [e2]
      omega
theorem eu_end {a b t : Nat} (ht : 127 ≤ t) (h1 : t = 0 ∨ b ≤ a) (h2 : a * b < 2 ^ (127 - t)) : b = 0 := by
  rw [show 127 - t = 0 by omega] at h2
  by_cases hb : b = 0
  · exact hb
  · have : 1 * 1 ≤ a * b := Nat.mul_le_mul (by omega) (by omega)
    omega
set_option maxRecDepth 20000 in
theorem k_gcd_lp {X : CX} {σ : Store} {A C : Nat} : ∀ (b9 a b t : Nat), a < 2 ^ 63 → b < 2 ^ 63 → Nat.gcd a b = Nat.gcd A C → (t = 0 ∨ b ≤ a) → a * b < 2 ^ (127 - t) → (t = 0 → a * b < 2 ^ 126) → t ≤ 200 → 200 - t < b9 → Rt (ΛC, mt_LS_commonDivisor, 0) (PFL (lN (Nat.gcd A C)) σ) X → G (ΛC, mt_LS_commonDivisor, 0) X σ [some (.long (lN a)), none, some (.long (lN b)), none, some (.int (nI t)), none, none] [] 3 := by
  intro b9
  induction b9 with
  | zero => intro a b t ha hb hg h1 h2 h3 ht ht9 hR; omega
  | succ b9 ih =>
  intro a b t ha hb hg h1 h2 h3 ht ht9 hR
  refine g_iload (by decide +kernel : decode prog_1_method_42_code 3 = .ok (.iload 4, 2)) rfl ?_
  refine g_sipush (v := nI 200) (by decide +kernel : decode prog_1_method_42_code 5 = .ok (.sipush 200, 3)) (by decide) ?_
  refine g_icmp_geN (tgt := 33) (by decide +kernel : decode prog_1_method_42_code 8 = .ok (.if_icmp .ge 25, 3)) (by decide) (by omega) (by decide) (fun h8 => ?_) (fun h8 => ?_)
  · refine g_lload_n (by decide +kernel : decode prog_1_method_42_code 33 = .ok (.lload_n 0, 1)) rfl ?_
    have hb0 : b = 0 := eu_end (t := t) (by omega) h1 h2
    exact g_lret hR (by decide +kernel : decode prog_1_method_42_code 34 = .ok (.lreturn, 1)) rfl ⟨_, rfl, by rw [← hg, hb0, Nat.gcd_zero_right], rfl⟩
  · refine g_lload_n (by decide +kernel : decode prog_1_method_42_code 11 = .ok (.lload_n 2, 1)) rfl ?_
    refine g_lconst (v := lN 0) (by decide +kernel : decode prog_1_method_42_code 12 = .ok (.lconst 0, 1)) (by decide) ?_
    refine g_lcmp (by decide +kernel : decode prog_1_method_42_code 13 = .ok (.lcmp, 1)) ?_
    refine g_if_eq (tgt := 33) (by decide +kernel : decode prog_1_method_42_code 14 = .ok (.ifCond .eq 19, 3)) (by decide) (fun h14 => ?_) (fun h14 => ?_)
    · have hb0 : b = 0 := (pk_lEQ (by omega) (by decide)).mp (lg_ne0.mp h14)
      refine g_lload_n (by decide +kernel : decode prog_1_method_42_code 33 = .ok (.lload_n 0, 1)) rfl ?_
      exact g_lret hR (by decide +kernel : decode prog_1_method_42_code 34 = .ok (.lreturn, 1)) rfl ⟨_, rfl, by rw [← hg, hb0, Nat.gcd_zero_right], rfl⟩
    · have hb0 : b ≠ 0 := fun z => h14 (lg_ne0.mpr (by rw [z]))
      refine g_lload_n (by decide +kernel : decode prog_1_method_42_code 17 = .ok (.lload_n 0, 1)) rfl ?_
      refine g_lload_n (by decide +kernel : decode prog_1_method_42_code 18 = .ok (.lload_n 2, 1)) rfl ?_
      refine g_lrem (by decide +kernel : decode prog_1_method_42_code 19 = .ok (.lrem, 1)) (lN_ne (by omega) (by omega)) ?_
      refine g_topL (w := lN (a % b)) (pk_lRem (by omega) (by omega) (by omega)) ?_
      refine g_lstore (L' := [some (.long (lN a)), none, some (.long (lN b)), none, some (.int (nI t)), some (.long (lN (a % b))), none]) (by decide +kernel : decode prog_1_method_42_code 20 = .ok (.lstore 5, 2)) (Nat.le_of_ble_eq_true rfl) rfl ?_
      refine g_lload_n (by decide +kernel : decode prog_1_method_42_code 22 = .ok (.lload_n 2, 1)) rfl ?_
      refine g_lstore_n (L' := [some (.long (lN b)), none, some (.long (lN b)), none, some (.int (nI t)), some (.long (lN (a % b))), none]) (by decide +kernel : decode prog_1_method_42_code 23 = .ok (.lstore_n 0, 1)) (Nat.le_of_ble_eq_true rfl) rfl ?_
      refine g_lload (by decide +kernel : decode prog_1_method_42_code 24 = .ok (.lload 5, 2)) rfl ?_
      refine g_lstore_n (L' := [some (.long (lN b)), none, some (.long (lN (a % b))), none, some (.int (nI t)), some (.long (lN (a % b))), none]) (by decide +kernel : decode prog_1_method_42_code 26 = .ok (.lstore_n 2, 1)) (Nat.le_of_ble_eq_true rfl) rfl ?_
      refine g_iincN (n := 1) (L' := [some (.long (lN b)), none, some (.long (lN (a % b))), none, some (.int (nI (t + 1))), some (.long (lN (a % b))), none]) (by decide +kernel : decode prog_1_method_42_code 27 = .ok (.iinc 4 1, 3)) rfl (by decide) (Nat.le_of_ble_eq_true rfl) rfl ?_
      refine g_goto (tgt := 3) (by decide +kernel : decode prog_1_method_42_code 30 = .ok (.goto (-27), 3)) (by decide) ?_
      refine g_sub (L' := [some (.long (lN b)), none, some (.long (lN (a % b))), none, some (.int (nI (t + 1))), none, none]) ⟨rfl, rfl, rfl, trivial⟩ ?_
      have hmod : a % b < b := Nat.mod_lt _ (by omega)
      exact ih b (a % b) (t + 1) (by omega) (by omega) (by rw [← hg, Nat.gcd_comm a b, Nat.gcd_rec b a, Nat.gcd_comm]) (by omega) (eu_step hb0 h1 h2 h3) (by omega) (by omega) (by omega) hR
set_option maxRecDepth 20000 in
theorem k_gcd (σ : Store) {A C : Nat} (hA : A < 2 ^ 63) (hC : C < 2 ^ 63) : Ct ΛC mt_LS_commonDivisor 0 [.long (lN A), .long (lN C)] σ (PFL (lN (Nat.gcd A C)) σ) := by
  refine Ct.of (by decide) (Nat.le_of_ble_eq_true rfl) (fun X hR => ?_)
  show G (ΛC, mt_LS_commonDivisor, 0) X σ [some (.long (lN A)), none, some (.long (lN C)), none, none, none, none] [] 0
  refine g_iconst (v := nI 0) (by decide +kernel : decode prog_1_method_42_code 0 = .ok (.iconst 0, 1)) (by decide) ?_
  refine g_istore (L' := [some (.long (lN A)), none, some (.long (lN C)), none, some (.int (nI 0)), none, none]) (by decide +kernel : decode prog_1_method_42_code 1 = .ok (.istore 4, 2)) (Nat.le_of_ble_eq_true rfl) rfl ?_
  have hm : A * C < 2 ^ 126 := by have := Nat.mul_lt_mul_of_lt_of_le hA (Nat.le_of_lt hC) (by decide); exact this
  exact k_gcd_lp 201 A C 0 hA hC rfl (Or.inl rfl) (Nat.lt_trans hm (by decide)) (fun _ => hm) (by omega) (by omega) hR
set_option maxRecDepth 20000 in
theorem k_partOf (σ : Store) {A C w : Nat} (hA : A < 2 ^ 63) (hC : C < 2 ^ 63) (hC0 : 0 < C) (hw : w < 2) : Ct ΛC mt_LS_partOf 1 [.long (lN A), .long (lN C), .int (nI w)] σ (PFL (lN (ptF A C w)) σ) := by
  refine Ct.of (by decide) (Nat.le_of_ble_eq_true rfl) (fun X hR => ?_)
  show G (ΛC, mt_LS_partOf, 1) X σ [some (.long (lN A)), none, some (.long (lN C)), none, some (.int (nI w)), none, none] [] 0
  have hg0 : 0 < Nat.gcd A C := Nat.gcd_pos_of_pos_right _ hC0
  have hgl : Nat.gcd A C ≤ C := Nat.gcd_le_right _ hC0
  refine g_lload_n (by decide +kernel : decode prog_1_method_41_code 0 = .ok (.lload_n 0, 1)) rfl ?_
  refine g_lload_n (by decide +kernel : decode prog_1_method_41_code 1 = .ok (.lload_n 2, 1)) rfl ?_
  refine g_callSL [.long (lN A), .long (lN C)] (by decide +kernel : decode prog_1_method_41_code 2 = .ok (.invokestatic 240, 3)) lk_LS_240 (k_gcd _ hA hC) rfl rfl (Nat.le_of_ble_eq_true rfl) (Nat.le_of_ble_eq_true rfl) (fun r2 s2 h2 => ?_)
  obtain ⟨rfl, e2⟩ := h2
  have e2 := e2.symm; subst e2
  refine g_lstore (L' := [some (.long (lN A)), none, some (.long (lN C)), none, some (.int (nI w)), some (.long (lN (Nat.gcd A C))), none]) (by decide +kernel : decode prog_1_method_41_code 5 = .ok (.lstore 5, 2)) (Nat.le_of_ble_eq_true rfl) rfl ?_
  refine g_lload (by decide +kernel : decode prog_1_method_41_code 7 = .ok (.lload 5, 2)) rfl ?_
  refine g_lconst (v := lN 0) (by decide +kernel : decode prog_1_method_41_code 9 = .ok (.lconst 0, 1)) (by decide) ?_
  refine g_lcmp (by decide +kernel : decode prog_1_method_41_code 10 = .ok (.lcmp, 1)) ?_
  refine g_if_ne (tgt := 16) (by decide +kernel : decode prog_1_method_41_code 11 = .ok (.ifCond .ne 5, 3)) (by decide) (fun h11 => ?_) (fun h11 => absurd ((pk_lEQ (by omega) (by decide)).mp (lg_ne0.mp h11)) (by omega))
  refine g_iload (by decide +kernel : decode prog_1_method_41_code 16 = .ok (.iload 4, 2)) rfl ?_
  refine g_if_neN (tgt := 25) (by decide +kernel : decode prog_1_method_41_code 18 = .ok (.ifCond .ne 7, 3)) (by decide) (by omega) (fun h18 => ?_) (fun h18 => ?_)
  · refine g_lload_n (by decide +kernel : decode prog_1_method_41_code 25 = .ok (.lload_n 2, 1)) rfl ?_
    refine g_lload (by decide +kernel : decode prog_1_method_41_code 26 = .ok (.lload 5, 2)) rfl ?_
    refine g_ldiv (by decide +kernel : decode prog_1_method_41_code 28 = .ok (.ldiv, 1)) (lN_ne hg0 (by omega)) ?_
    refine g_topL (w := lN (C / Nat.gcd A C)) (pk_lDiv (by omega) hg0 (by omega)) ?_
    exact g_lret hR (by decide +kernel : decode prog_1_method_41_code 29 = .ok (.lreturn, 1)) rfl ⟨_, rfl, ⟨by unfold ptF; rw [if_neg (by omega)], rfl⟩⟩
  · refine g_lload_n (by decide +kernel : decode prog_1_method_41_code 21 = .ok (.lload_n 0, 1)) rfl ?_
    refine g_goto (tgt := 26) (by decide +kernel : decode prog_1_method_41_code 22 = .ok (.goto 4, 3)) (by decide) ?_
    refine g_lload (by decide +kernel : decode prog_1_method_41_code 26 = .ok (.lload 5, 2)) rfl ?_
    refine g_ldiv (by decide +kernel : decode prog_1_method_41_code 28 = .ok (.ldiv, 1)) (lN_ne hg0 (by omega)) ?_
    refine g_topL (w := lN (A / Nat.gcd A C)) (pk_lDiv (by omega) hg0 (by omega)) ?_
    exact g_lret hR (by decide +kernel : decode prog_1_method_41_code 29 = .ok (.lreturn, 1)) rfl ⟨_, rfl, ⟨by unfold ptF; rw [if_pos (by omega)], rfl⟩⟩
def bn (n : Nat) : Nat → Nat
  | 0 => 1
  | i + 1 => bn n i * (n - i) / (i + 1)
theorem bn_70 : ∀ n : Fin 9, ∀ k : Fin 9, k.val ≤ n.val → bn n.val k.val ≤ 70 := by decide
theorem bn_bin : ∀ n : Fin 9, ∀ k : Fin 9, k.val ≤ n.val → bn n.val k.val = bin n.val k.val := by decide
set_option maxRecDepth 20000 in
theorem k_odds_lp {X : CX} {σ τ : Store} {f : Row} (h : RX σ τ f) {n k w : Nat} (hn : n ≤ 8) (hk : k ≤ n) (hw : w < 2) : ∀ (b9 i : Nat), i ≤ n → n - i < b9 → Rt (ΛC, mt_LS_odds, 2) (cPL τ (lN (ptF (abF (bin n k) (tn (f 6)) k n) (100 ^ n) w)) f) X → G (ΛC, mt_LS_odds, 2) X σ [some (.ref 0), some (.int (nI n)), some (.int (nI k)), some (.int (nI w)), some (.long (lN (abF (bin n k) (tn (f 6)) k i))), none, some (.long (lN (100 ^ i))), none, some (.int (nI i))] [] 72 := by
  intro b9
  induction b9 with
  | zero => intro i hi hb hR; omega
  | succ b9 ih =>
  intro i hi hb hR
  have h6 : tn (f 6) ≤ 99 := (h.i.2.2.1 3 (by decide)).e.2
  have hab := ab_lt (n := n) (k := k) (p := tn (f 6)) (i := i) hn hk (by omega) (by omega)
  have hpw := pow_8 (i := i) (by omega)
  refine g_iload (by decide +kernel : decode prog_1_method_39_code 72 = .ok (.iload 8, 2)) rfl ?_
  refine g_iload_n (by decide +kernel : decode prog_1_method_39_code 74 = .ok (.iload_n 1, 1)) rfl ?_
  refine g_icmp_geN (tgt := 129) (by decide +kernel : decode prog_1_method_39_code 75 = .ok (.if_icmp .ge 54, 3)) (by decide) (by omega) (by omega) (fun h75 => ?_) (fun h75 => ?_)
  · refine g_lload (by decide +kernel : decode prog_1_method_39_code 129 = .ok (.lload 4, 2)) rfl ?_
    refine g_lload (by decide +kernel : decode prog_1_method_39_code 131 = .ok (.lload 6, 2)) rfl ?_
    refine g_iload_n (by decide +kernel : decode prog_1_method_39_code 133 = .ok (.iload_n 3, 1)) rfl ?_
    refine g_callSL [.long (lN (abF (bin n k) (tn (f 6)) k i)), .long (lN (100 ^ i)), .int (nI w)] (by decide +kernel : decode prog_1_method_39_code 134 = .ok (.invokestatic 236, 3)) lk_LS_236 (k_partOf _ (A := abF (bin n k) (tn (f 6)) k i) (C := 100 ^ i) (w := w) (by omega) (by omega) (by omega) (by omega)) rfl rfl (Nat.le_of_ble_eq_true rfl) (Nat.le_of_ble_eq_true rfl) (fun r134 s134 h134 => ?_)
    obtain ⟨rfl, e134⟩ := h134
    have e134 := e134.symm; subst e134
    obtain rfl : i = n := by omega
    exact g_lret hR (by decide +kernel : decode prog_1_method_39_code 137 = .ok (.lreturn, 1)) rfl ⟨_, rfl, rfl, h⟩
  · refine g_lload (by decide +kernel : decode prog_1_method_39_code 78 = .ok (.lload 4, 2)) rfl ?_
    refine g_iload (by decide +kernel : decode prog_1_method_39_code 80 = .ok (.iload 8, 2)) rfl ?_
    refine g_iload_n (by decide +kernel : decode prog_1_method_39_code 82 = .ok (.iload_n 2, 1)) rfl ?_
    have J83 : G (ΛC, mt_LS_odds, 2) X σ [some (.ref 0), some (.int (nI n)), some (.int (nI k)), some (.int (nI w)), some (.long (lN (abF (bin n k) (tn (f 6)) k i))), none, some (.long (lN (100 ^ i))), none, some (.int (nI i))] [.long (lN (if i < k then tn (f 6) else 100 - tn (f 6))), .long (lN (abF (bin n k) (tn (f 6)) k i))] 112 := by
      refine g_lmul (by decide +kernel : decode prog_1_method_39_code 112 = .ok (.lmul, 1)) ?_
      refine g_topL (w := lN (abF (bin n k) (tn (f 6)) k (i + 1))) (by rw [lN_mul]; rfl) ?_
      refine g_lstore (L' := [some (.ref 0), some (.int (nI n)), some (.int (nI k)), some (.int (nI w)), some (.long (lN (abF (bin n k) (tn (f 6)) k (i + 1)))), none, some (.long (lN (100 ^ i))), none, some (.int (nI i))]) (by decide +kernel : decode prog_1_method_39_code 113 = .ok (.lstore 4, 2)) (Nat.le_of_ble_eq_true rfl) rfl ?_
      refine g_lload (by decide +kernel : decode prog_1_method_39_code 115 = .ok (.lload 6, 2)) rfl ?_
      refine g_ldc2 (v := lN 100) (by decide +kernel : decode prog_1_method_39_code 117 = .ok (.ldc2_w 234, 3)) kc_LS_234 ?_
      refine g_lmul (by decide +kernel : decode prog_1_method_39_code 120 = .ok (.lmul, 1)) ?_
      refine g_topL (w := lN (100 ^ (i + 1))) (by rw [lN_mul]; rfl) ?_
      refine g_lstore (L' := [some (.ref 0), some (.int (nI n)), some (.int (nI k)), some (.int (nI w)), some (.long (lN (abF (bin n k) (tn (f 6)) k (i + 1)))), none, some (.long (lN (100 ^ (i + 1)))), none, some (.int (nI i))]) (by decide +kernel : decode prog_1_method_39_code 121 = .ok (.lstore 6, 2)) (Nat.le_of_ble_eq_true rfl) rfl ?_
      refine g_iincN (n := 1) (L' := [some (.ref 0), some (.int (nI n)), some (.int (nI k)), some (.int (nI w)), some (.long (lN (abF (bin n k) (tn (f 6)) k (i + 1)))), none, some (.long (lN (100 ^ (i + 1)))), none, some (.int (nI (i + 1)))]) (by decide +kernel : decode prog_1_method_39_code 123 = .ok (.iinc 8 1, 3)) rfl (by decide) (Nat.le_of_ble_eq_true rfl) rfl ?_
      refine g_goto (tgt := 72) (by decide +kernel : decode prog_1_method_39_code 126 = .ok (.goto (-54), 3)) (by decide) ?_
      exact ih (i + 1) (by omega) (by omega) hR
    refine g_icmp_geN (tgt := 99) (by decide +kernel : decode prog_1_method_39_code 83 = .ok (.if_icmp .ge 16, 3)) (by decide) (by omega) (by omega) (fun h83 => ?_) (fun h83 => ?_)
    · refine g_bipush (v := nI 100) (by decide +kernel : decode prog_1_method_39_code 99 = .ok (.bipush 100, 2)) (by decide) ?_
      refine g_aload_n (by decide +kernel : decode prog_1_method_39_code 101 = .ok (.aload_n 0, 1)) rfl ?_
      refine g_getR (by decide +kernel : decode prog_1_method_39_code 102 = .ok (.getfield 20, 3)) fl_LS_20 rfl rfl ?_
      refine g_getR (by decide +kernel : decode prog_1_method_39_code 105 = .ok (.getfield 103, 3)) fl_LS_103 rfl rfl ?_
      refine g_iconst (v := nI 3) (by decide +kernel : decode prog_1_method_39_code 108 = .ok (.iconst 3, 1)) (by decide) ?_
      refine g_iaload (a := 3) (by decide +kernel : decode prog_1_method_39_code 109 = .ok (.iaload, 1)) rfl rfl (by decide) (by decide) ?_
      refine g_top (w := nI (tn (f 6))) ((h.n.l (i := 3) (by decide)).trans (h.i.2.2.1 3 (by decide)).e.1) ?_
      refine g_isubN (by decide +kernel : decode prog_1_method_39_code 110 = .ok (.isub, 1)) (by omega) ?_
      refine g_i2lN (by decide +kernel : decode prog_1_method_39_code 111 = .ok (.i2l, 1)) (by omega) ?_
      exact g_topL (by rw [if_neg (by omega)]) J83
    · refine g_aload_n (by decide +kernel : decode prog_1_method_39_code 86 = .ok (.aload_n 0, 1)) rfl ?_
      refine g_getR (by decide +kernel : decode prog_1_method_39_code 87 = .ok (.getfield 20, 3)) fl_LS_20 rfl rfl ?_
      refine g_getR (by decide +kernel : decode prog_1_method_39_code 90 = .ok (.getfield 103, 3)) fl_LS_103 rfl rfl ?_
      refine g_iconst (v := nI 3) (by decide +kernel : decode prog_1_method_39_code 93 = .ok (.iconst 3, 1)) (by decide) ?_
      refine g_iaload (a := 3) (by decide +kernel : decode prog_1_method_39_code 94 = .ok (.iaload, 1)) rfl rfl (by decide) (by decide) ?_
      refine g_top (w := nI (tn (f 6))) ((h.n.l (i := 3) (by decide)).trans (h.i.2.2.1 3 (by decide)).e.1) ?_
      refine g_i2lN (by decide +kernel : decode prog_1_method_39_code 95 = .ok (.i2l, 1)) (by omega) ?_
      refine g_goto (tgt := 112) (by decide +kernel : decode prog_1_method_39_code 96 = .ok (.goto 16, 3)) (by decide) ?_
      exact g_topL (by rw [if_pos (by omega)]) J83
set_option maxRecDepth 20000 in
theorem k_odds_b {X : CX} {σ : Store} {n k w : Nat} (hn : n ≤ 8) (hk : k ≤ n) (hK : G (ΛC, mt_LS_odds, 2) X σ [some (.ref 0), some (.int (nI n)), some (.int (nI k)), some (.int (nI w)), some (.long (lN (bn n k))), none, some (.long (lN 1)), none, none] [] 69) : ∀ (b9 i : Nat), i ≤ k → k - i < b9 → G (ΛC, mt_LS_odds, 2) X σ [some (.ref 0), some (.int (nI n)), some (.int (nI k)), some (.int (nI w)), some (.long (lN (bn n i))), none, some (.long (lN 1)), none, some (.int (nI i))] [] 41 := by
  intro b9
  induction b9 with
  | zero => intro i hi hb; omega
  | succ b9 ih =>
  intro i hi hb
  have h70 : bn n i ≤ 70 := bn_70 ⟨n, by omega⟩ ⟨i, by omega⟩ (by show i ≤ n; omega)
  have hml : bn n i * (n - i) ≤ 70 * 8 := Nat.mul_le_mul h70 (by omega)
  refine g_iload (by decide +kernel : decode prog_1_method_39_code 41 = .ok (.iload 8, 2)) rfl ?_
  refine g_iload_n (by decide +kernel : decode prog_1_method_39_code 43 = .ok (.iload_n 2, 1)) rfl ?_
  refine g_icmp_geN (tgt := 69) (by decide +kernel : decode prog_1_method_39_code 44 = .ok (.if_icmp .ge 25, 3)) (by decide) (by omega) (by omega) (fun h44 => ?_) (fun h44 => ?_)
  · obtain rfl : i = k := by omega
    refine g_sub (L' := [some (.ref 0), some (.int (nI n)), some (.int (nI i)), some (.int (nI w)), some (.long (lN (bn n i))), none, some (.long (lN 1)), none, none]) ⟨rfl, rfl, rfl, rfl, rfl, rfl, trivial⟩ ?_
    exact hK
  · refine g_lload (by decide +kernel : decode prog_1_method_39_code 47 = .ok (.lload 4, 2)) rfl ?_
    refine g_iload_n (by decide +kernel : decode prog_1_method_39_code 49 = .ok (.iload_n 1, 1)) rfl ?_
    refine g_iload (by decide +kernel : decode prog_1_method_39_code 50 = .ok (.iload 8, 2)) rfl ?_
    refine g_isubN (by decide +kernel : decode prog_1_method_39_code 52 = .ok (.isub, 1)) (by omega) ?_
    refine g_i2lN (by decide +kernel : decode prog_1_method_39_code 53 = .ok (.i2l, 1)) (by omega) ?_
    refine g_lmul (by decide +kernel : decode prog_1_method_39_code 54 = .ok (.lmul, 1)) ?_
    refine g_topL (w := lN (bn n i * (n - i))) (lN_mul _ _) ?_
    refine g_iload (by decide +kernel : decode prog_1_method_39_code 55 = .ok (.iload 8, 2)) rfl ?_
    refine g_iconst (v := nI 1) (by decide +kernel : decode prog_1_method_39_code 57 = .ok (.iconst 1, 1)) (by decide) ?_
    refine g_iaddN (by decide +kernel : decode prog_1_method_39_code 58 = .ok (.iadd, 1)) ?_
    refine g_i2lN (by decide +kernel : decode prog_1_method_39_code 59 = .ok (.i2l, 1)) (by omega) ?_
    refine g_ldiv (by decide +kernel : decode prog_1_method_39_code 60 = .ok (.ldiv, 1)) (lN_ne (by omega) (by omega)) ?_
    refine g_topL (w := lN (bn n (i + 1))) (pk_lDiv (by omega) (by omega) (by omega)) ?_
    refine g_lstore (L' := [some (.ref 0), some (.int (nI n)), some (.int (nI k)), some (.int (nI w)), some (.long (lN (bn n (i + 1)))), none, some (.long (lN 1)), none, some (.int (nI i))]) (by decide +kernel : decode prog_1_method_39_code 61 = .ok (.lstore 4, 2)) (Nat.le_of_ble_eq_true rfl) rfl ?_
    refine g_iincN (n := 1) (L' := [some (.ref 0), some (.int (nI n)), some (.int (nI k)), some (.int (nI w)), some (.long (lN (bn n (i + 1)))), none, some (.long (lN 1)), none, some (.int (nI (i + 1)))]) (by decide +kernel : decode prog_1_method_39_code 63 = .ok (.iinc 8 1, 3)) rfl (by decide) (Nat.le_of_ble_eq_true rfl) rfl ?_
    refine g_goto (tgt := 41) (by decide +kernel : decode prog_1_method_39_code 66 = .ok (.goto (-25), 3)) (by decide) ?_
    exact ih (i + 1) (by omega) (by omega)
set_option maxRecDepth 20000 in
theorem k_odds {σ τ : Store} {f : Row} (h : RX σ τ f) (x y z : Int32) : Ct ΛC mt_LS_odds 2 [.ref 0, .int x, .int y, .int z] σ (cPL τ (oddsV f x y z) f) := by
  refine Ct.of (by decide) (Nat.le_of_ble_eq_true rfl) (fun X hR => ?_)
  show G (ΛC, mt_LS_odds, 2) X σ [some (.ref 0), some (.int x), some (.int y), some (.int z), none, none, none, none, none] [] 0
  have hn8 := h.n8
  refine g_iload_n (by decide +kernel : decode prog_1_method_39_code 0 = .ok (.iload_n 1, 1)) rfl ?_
  refine g_iconst (v := nI 0) (by decide +kernel : decode prog_1_method_39_code 1 = .ok (.iconst 0, 1)) (by decide) ?_
  refine g_bipush (v := nI 8) (by decide +kernel : decode prog_1_method_39_code 2 = .ok (.bipush 8, 2)) (by decide) ?_
  refine g_callSI [.int x, .int (nI 0), .int (nI 8)] (by decide +kernel : decode prog_1_method_39_code 4 = .ok (.invokestatic 62, 3)) lk_LS_62 (k_within _ x 0 8) rfl rfl (Nat.le_of_ble_eq_true rfl) (Nat.le_of_ble_eq_true rfl) (fun r4 s4 h4 => ?_)
  rcases h4 with ⟨e4, ⟨rfl, n, ha4, hb4, rfl⟩ | ⟨rfl, n4⟩⟩
  · have e4 := e4.symm; subst e4
    refine g_if_eqN (tgt := 28) (by decide +kernel : decode prog_1_method_39_code 7 = .ok (.ifCond .eq 21, 3)) (by decide) (by decide) (fun h => False.elim (by revert h; decide)) (fun _ => ?_)
    refine g_iload_n (by decide +kernel : decode prog_1_method_39_code 10 = .ok (.iload_n 2, 1)) rfl ?_
    refine g_iconst (v := nI 0) (by decide +kernel : decode prog_1_method_39_code 11 = .ok (.iconst 0, 1)) (by decide) ?_
    refine g_iload_n (by decide +kernel : decode prog_1_method_39_code 12 = .ok (.iload_n 1, 1)) rfl ?_
    refine g_callSI [.int y, .int (nI 0), .int (nI n)] (by decide +kernel : decode prog_1_method_39_code 13 = .ok (.invokestatic 62, 3)) lk_LS_62 (k_within _ y 0 n (by decide) (by omega)) rfl rfl (Nat.le_of_ble_eq_true rfl) (Nat.le_of_ble_eq_true rfl) (fun r13 s13 h13 => ?_)
    rcases h13 with ⟨e13, ⟨rfl, k, ha13, hb13, rfl⟩ | ⟨rfl, n13⟩⟩
    · have e13 := e13.symm; subst e13
      refine g_if_eqN (tgt := 28) (by decide +kernel : decode prog_1_method_39_code 16 = .ok (.ifCond .eq 12, 3)) (by decide) (by decide) (fun h => False.elim (by revert h; decide)) (fun _ => ?_)
      refine g_iload_n (by decide +kernel : decode prog_1_method_39_code 19 = .ok (.iload_n 3, 1)) rfl ?_
      refine g_iconst (v := nI 0) (by decide +kernel : decode prog_1_method_39_code 20 = .ok (.iconst 0, 1)) (by decide) ?_
      refine g_iconst (v := nI 1) (by decide +kernel : decode prog_1_method_39_code 21 = .ok (.iconst 1, 1)) (by decide) ?_
      refine g_callSI [.int z, .int (nI 0), .int (nI 1)] (by decide +kernel : decode prog_1_method_39_code 22 = .ok (.invokestatic 62, 3)) lk_LS_62 (k_within _ z 0 1) rfl rfl (Nat.le_of_ble_eq_true rfl) (Nat.le_of_ble_eq_true rfl) (fun r22 s22 h22 => ?_)
      rcases h22 with ⟨e22, ⟨rfl, w, ha22, hb22, rfl⟩ | ⟨rfl, n22⟩⟩
      · have e22 := e22.symm; subst e22
        refine g_if_neN (tgt := 32) (by decide +kernel : decode prog_1_method_39_code 25 = .ok (.ifCond .ne 7, 3)) (by decide) (by decide) (fun _ => ?_) (fun h => False.elim (by revert h; decide))
        refine g_lconst (v := lN 1) (by decide +kernel : decode prog_1_method_39_code 32 = .ok (.lconst 1, 1)) (by decide) ?_
        refine g_lstore (L' := [some (.ref 0), some (.int (nI n)), some (.int (nI k)), some (.int (nI w)), some (.long (lN 1)), none, none, none, none]) (by decide +kernel : decode prog_1_method_39_code 33 = .ok (.lstore 4, 2)) (Nat.le_of_ble_eq_true rfl) rfl ?_
        refine g_lconst (v := lN 1) (by decide +kernel : decode prog_1_method_39_code 35 = .ok (.lconst 1, 1)) (by decide) ?_
        refine g_lstore (L' := [some (.ref 0), some (.int (nI n)), some (.int (nI k)), some (.int (nI w)), some (.long (lN 1)), none, some (.long (lN 1)), none, none]) (by decide +kernel : decode prog_1_method_39_code 36 = .ok (.lstore 6, 2)) (Nat.le_of_ble_eq_true rfl) rfl ?_
        refine g_iconst (v := nI 0) (by decide +kernel : decode prog_1_method_39_code 38 = .ok (.iconst 0, 1)) (by decide) ?_
        refine g_istore (L' := [some (.ref 0), some (.int (nI n)), some (.int (nI k)), some (.int (nI w)), some (.long (lN 1)), none, some (.long (lN 1)), none, some (.int (nI 0))]) (by decide +kernel : decode prog_1_method_39_code 39 = .ok (.istore 8, 2)) (Nat.le_of_ble_eq_true rfl) rfl ?_
        refine k_odds_b (by omega) (by omega) ?_ (k + 1) 0 (by omega) (by omega)
        refine g_iconst (v := nI 0) (by decide +kernel : decode prog_1_method_39_code 69 = .ok (.iconst 0, 1)) (by decide) ?_
        refine g_istore (L' := [some (.ref 0), some (.int (nI n)), some (.int (nI k)), some (.int (nI w)), some (.long (lN (bn n k))), none, some (.long (lN 1)), none, some (.int (nI 0))]) (by decide +kernel : decode prog_1_method_39_code 70 = .ok (.istore 8, 2)) (Nat.le_of_ble_eq_true rfl) rfl ?_
        have eV : oddsV f (nI n) (nI k) (nI w) = lN (ptF (abF (bin n k) (tn (f 6)) k n) (100 ^ n) w) := by simp only [oddsV, rg_of ha4 hb4, rg_of ha13 hb13 (show n < 2 ^ 31 by omega), rg_of ha22 hb22]
        rw [eV] at hR
        refine g_sub (L' := [some (.ref 0), some (.int (nI n)), some (.int (nI k)), some (.int (nI w)), some (.long (lN (abF (bin n k) (tn (f 6)) k 0))), none, some (.long (lN (100 ^ 0))), none, some (.int (nI 0))]) ⟨rfl, rfl, rfl, rfl, by rw [bn_bin ⟨n, by omega⟩ ⟨k, by omega⟩ (by show k ≤ n; omega)]; rfl, rfl, rfl, trivial⟩ ?_
        exact k_odds_lp h (by omega) (by omega) (by omega) (n + 1) 0 (by omega) (by omega) hR
      · have e22 := e22.symm; subst e22
        refine g_if_neN (tgt := 32) (by decide +kernel : decode prog_1_method_39_code 25 = .ok (.ifCond .ne 7, 3)) (by decide) (by decide) (fun h => False.elim (by revert h; decide)) (fun _ => ?_)
        refine g_ldc2 (v := -1) (by decide +kernel : decode prog_1_method_39_code 28 = .ok (.ldc2_w 232, 3)) kc_LS_232 ?_
        exact g_lret hR (by decide +kernel : decode prog_1_method_39_code 31 = .ok (.lreturn, 1)) rfl ⟨_, rfl, ⟨by first | (simp only [oddsV, rg_of ha4 hb4, rg_of ha13 hb13 (show n < 2 ^ 31 by omega), rg_none n22]; done) | (simp only [oddsV, rg_of ha4 hb4, rg_of ha13 hb13 (show n < 2 ^ 31 by omega), rg_none n22]; rfl), h⟩⟩
    · have e13 := e13.symm; subst e13
      refine g_if_eqN (tgt := 28) (by decide +kernel : decode prog_1_method_39_code 16 = .ok (.ifCond .eq 12, 3)) (by decide) (by decide) (fun _ => ?_) (fun h => False.elim (by revert h; decide))
      refine g_ldc2 (v := -1) (by decide +kernel : decode prog_1_method_39_code 28 = .ok (.ldc2_w 232, 3)) kc_LS_232 ?_
      exact g_lret hR (by decide +kernel : decode prog_1_method_39_code 31 = .ok (.lreturn, 1)) rfl ⟨_, rfl, ⟨by first | (simp only [oddsV, rg_of ha4 hb4, rg_none n13 (show n < 2 ^ 31 by omega) (Nat.zero_le _)]; done) | (simp only [oddsV, rg_of ha4 hb4, rg_none n13 (show n < 2 ^ 31 by omega) (Nat.zero_le _)]; rfl), h⟩⟩
  · have e4 := e4.symm; subst e4
    refine g_if_eqN (tgt := 28) (by decide +kernel : decode prog_1_method_39_code 7 = .ok (.ifCond .eq 21, 3)) (by decide) (by decide) (fun _ => ?_) (fun h => False.elim (by revert h; decide))
    refine g_ldc2 (v := -1) (by decide +kernel : decode prog_1_method_39_code 28 = .ok (.ldc2_w 232, 3)) kc_LS_232 ?_
    exact g_lret hR (by decide +kernel : decode prog_1_method_39_code 31 = .ok (.lreturn, 1)) rfl ⟨_, rfl, ⟨by first | (simp only [oddsV, rg_none n4]; done) | (simp only [oddsV, rg_none n4]; rfl), h⟩⟩
set_option maxRecDepth 20000 in
theorem k_hope {σ τ : Store} {f : Row} (h : RX σ τ f) (x y : Int32) : Ct ΛC mt_LS_hope 2 [.ref 0, .int x, .int y] σ (cPL τ (hopeV f x y) f) := by
  refine Ct.of (by decide) (Nat.le_of_ble_eq_true rfl) (fun X hR => ?_)
  show G (ΛC, mt_LS_hope, 2) X σ [some (.ref 0), some (.int x), some (.int y)] [] 0
  have hn8 := h.n8
  have h6 : tn (f 6) ≤ 99 := (h.i.2.2.1 3 (by decide)).e.2
  have hml : ∀ n, n ≤ 99 → n * tn (f 6) ≤ 99 * 99 := fun n hn => Nat.mul_le_mul hn h6
  refine g_iload_n (by decide +kernel : decode prog_1_method_40_code 0 = .ok (.iload_n 1, 1)) rfl ?_
  refine g_iconst (v := nI 0) (by decide +kernel : decode prog_1_method_40_code 1 = .ok (.iconst 0, 1)) (by decide) ?_
  refine g_bipush (v := nI 99) (by decide +kernel : decode prog_1_method_40_code 2 = .ok (.bipush 99, 2)) (by decide) ?_
  refine g_callSI [.int x, .int (nI 0), .int (nI 99)] (by decide +kernel : decode prog_1_method_40_code 4 = .ok (.invokestatic 62, 3)) lk_LS_62 (k_within _ x 0 99) rfl rfl (Nat.le_of_ble_eq_true rfl) (Nat.le_of_ble_eq_true rfl) (fun r4 s4 h4 => ?_)
  rcases h4 with ⟨e4, ⟨rfl, n, ha4, hb4, rfl⟩ | ⟨rfl, n4⟩⟩
  · have e4 := e4.symm; subst e4
    refine g_if_eqN (tgt := 19) (by decide +kernel : decode prog_1_method_40_code 7 = .ok (.ifCond .eq 12, 3)) (by decide) (by decide) (fun h => False.elim (by revert h; decide)) (fun _ => ?_)
    refine g_iload_n (by decide +kernel : decode prog_1_method_40_code 10 = .ok (.iload_n 2, 1)) rfl ?_
    refine g_iconst (v := nI 0) (by decide +kernel : decode prog_1_method_40_code 11 = .ok (.iconst 0, 1)) (by decide) ?_
    refine g_iconst (v := nI 1) (by decide +kernel : decode prog_1_method_40_code 12 = .ok (.iconst 1, 1)) (by decide) ?_
    refine g_callSI [.int y, .int (nI 0), .int (nI 1)] (by decide +kernel : decode prog_1_method_40_code 13 = .ok (.invokestatic 62, 3)) lk_LS_62 (k_within _ y 0 1) rfl rfl (Nat.le_of_ble_eq_true rfl) (Nat.le_of_ble_eq_true rfl) (fun r13 s13 h13 => ?_)
    rcases h13 with ⟨e13, ⟨rfl, w, ha13, hb13, rfl⟩ | ⟨rfl, n13⟩⟩
    · have e13 := e13.symm; subst e13
      refine g_if_neN (tgt := 23) (by decide +kernel : decode prog_1_method_40_code 16 = .ok (.ifCond .ne 7, 3)) (by decide) (by decide) (fun _ => ?_) (fun h => False.elim (by revert h; decide))
      refine g_iload_n (by decide +kernel : decode prog_1_method_40_code 23 = .ok (.iload_n 1, 1)) rfl ?_
      refine g_i2lN (by decide +kernel : decode prog_1_method_40_code 24 = .ok (.i2l, 1)) (by omega) ?_
      refine g_aload_n (by decide +kernel : decode prog_1_method_40_code 25 = .ok (.aload_n 0, 1)) rfl ?_
      refine g_getR (by decide +kernel : decode prog_1_method_40_code 26 = .ok (.getfield 20, 3)) fl_LS_20 rfl rfl ?_
      refine g_getR (by decide +kernel : decode prog_1_method_40_code 29 = .ok (.getfield 103, 3)) fl_LS_103 rfl rfl ?_
      refine g_iconst (v := nI 3) (by decide +kernel : decode prog_1_method_40_code 32 = .ok (.iconst 3, 1)) (by decide) ?_
      refine g_iaload (a := 3) (by decide +kernel : decode prog_1_method_40_code 33 = .ok (.iaload, 1)) rfl rfl (by decide) (by decide) ?_
      refine g_top (w := nI (tn (f 6))) ((h.n.l (i := 3) (by decide)).trans (h.i.2.2.1 3 (by decide)).e.1) ?_
      refine g_i2lN (by decide +kernel : decode prog_1_method_40_code 34 = .ok (.i2l, 1)) (by omega) ?_
      refine g_lmul (by decide +kernel : decode prog_1_method_40_code 35 = .ok (.lmul, 1)) ?_
      refine g_topL (w := lN (n * tn (f 6))) (lN_mul _ _) ?_
      refine g_ldc2 (v := lN 100) (by decide +kernel : decode prog_1_method_40_code 36 = .ok (.ldc2_w 234, 3)) kc_LS_234 ?_
      refine g_iload_n (by decide +kernel : decode prog_1_method_40_code 39 = .ok (.iload_n 2, 1)) rfl ?_
      refine g_callSL [.long (lN (n * tn (f 6))), .long (lN 100), .int (nI w)] (by decide +kernel : decode prog_1_method_40_code 40 = .ok (.invokestatic 236, 3)) lk_LS_236 (k_partOf _ (A := n * tn (f 6)) (C := 100) (w := w) (by have h9 := hml n (by omega); omega) (by decide) (by decide) (by omega)) rfl rfl (Nat.le_of_ble_eq_true rfl) (Nat.le_of_ble_eq_true rfl) (fun r40 s40 h40 => ?_)
      obtain ⟨rfl, e40⟩ := h40
      have e40 := e40.symm; subst e40
      exact g_lret hR (by decide +kernel : decode prog_1_method_40_code 43 = .ok (.lreturn, 1)) rfl ⟨_, rfl, ⟨by first | (simp only [hopeV, rg_of ha4 hb4, rg_of ha13 hb13]; done) | (simp only [hopeV, rg_of ha4 hb4, rg_of ha13 hb13]; rfl), h⟩⟩
    · have e13 := e13.symm; subst e13
      refine g_if_neN (tgt := 23) (by decide +kernel : decode prog_1_method_40_code 16 = .ok (.ifCond .ne 7, 3)) (by decide) (by decide) (fun h => False.elim (by revert h; decide)) (fun _ => ?_)
      refine g_ldc2 (v := -1) (by decide +kernel : decode prog_1_method_40_code 19 = .ok (.ldc2_w 232, 3)) kc_LS_232 ?_
      exact g_lret hR (by decide +kernel : decode prog_1_method_40_code 22 = .ok (.lreturn, 1)) rfl ⟨_, rfl, ⟨by first | (simp only [hopeV, rg_of ha4 hb4, rg_none n13]; done) | (simp only [hopeV, rg_of ha4 hb4, rg_none n13]; rfl), h⟩⟩
  · have e4 := e4.symm; subst e4
    refine g_if_eqN (tgt := 19) (by decide +kernel : decode prog_1_method_40_code 7 = .ok (.ifCond .eq 12, 3)) (by decide) (by decide) (fun _ => ?_) (fun h => False.elim (by revert h; decide))
    refine g_ldc2 (v := -1) (by decide +kernel : decode prog_1_method_40_code 19 = .ok (.ldc2_w 232, 3)) kc_LS_232 ?_
    exact g_lret hR (by decide +kernel : decode prog_1_method_40_code 22 = .ok (.lreturn, 1)) rfl ⟨_, rfl, ⟨by first | (simp only [hopeV, rg_none n4]; done) | (simp only [hopeV, rg_none n4]; rfl), h⟩⟩
