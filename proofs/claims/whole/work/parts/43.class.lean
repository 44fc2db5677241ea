/-! THE PROGRAM: rows, sheets, shelves, what is kept -/
theorem s_row2 (σ : Store) (k : Nat) (a b : Row) : s_row (s_row σ k a) k b = s_row σ k b := by
  funext c
  unfold s_row
  by_cases h : c = k
  · simp [h]
  · simp [h]
theorem RX.rw3 {σ τ : Store} {f : Row} (h : RX σ τ f) (k : Nat) (a b c : Int32) : RX (s_up (s_up (s_up σ 32 (3 * k + 0) a) 32 (3 * k + 1) b) 32 (3 * k + 2) c) (s_row τ 7 (upd (upd (upd (τ 7) (3 * k) a) (3 * k + 1) b) (3 * k + 2) c)) f := by
  obtain ⟨r, h1, h2, h3, h4⟩ := h.2.2.2.1
  refine ⟨h.1, h.2.1, h.2.2.1, ⟨r, h1, h2, h3, fun j hj => ?_⟩, h.2.2.2.2⟩
  show upd (upd (upd (σ 32) (3 * k) a) (3 * k + 1) b) (3 * k + 2) c j = upd (upd (upd (τ 7) (3 * k) a) (3 * k + 1) b) (3 * k + 2) c j
  simp only [upd, h4 j hj]
theorem RX.rw1 {σ τ : Store} {f : Row} (h : RX σ τ f) (q : Nat) (a : Int32) : RX (s_up σ 32 q a) (s_up τ 7 q a) f := by
  obtain ⟨r, h1, h2, h3, h4⟩ := h.2.2.2.1
  refine ⟨h.1, h.2.1, h.2.2.1, ⟨r, h1, h2, h3, fun j hj => ?_⟩, h.2.2.2.2⟩
  show upd (σ 32) q a j = upd (τ 7) q a j
  simp only [upd, h4 j hj]
theorem RX.rwn {σ τ : Store} {f : Row} (h : RX σ τ f) {n : Nat} (hn : n ≤ 10) : RX (s_up σ 31 1 (nI n)) (s_up τ 0 14 (nI n)) f := by
  obtain ⟨r, h1, h2, h3, h4⟩ := h.2.2.2.1
  exact ⟨h.1, h.2.1, h.2.2.1, ⟨n, hn, rfl, rfl, h4⟩, h.2.2.2.2⟩
set_option maxRecDepth 20000 in
theorem k_prove_lp {X : CX} {τ : Store} {f : Row} {o n : Nat} (ho : o < nn f) (hn : n ≤ 10) : ∀ (b9 k : Nat) (σ : Store), RX σ (s_row τ 7 (prF f o (τ 7) k)) f → RP (tV σ) (yN 255 f k) → k ≤ n → n - k < b9 → Rt (ΛC, mt_LS_prove, 4) (cP (s_up (s_row τ 7 (prF f o (τ 7) n)) 0 14 (nI n)) (nI n) f) X → G (ΛC, mt_LS_prove, 4) X σ [some (.ref 0), some (.int (nI o)), some (.int (nI n)), some (.ref 10), some (.int (nI k))] [] 42 := by
  intro b9
  induction b9 with
  | zero => intro k σ h hT hk hb hR; omega
  | succ b9 ih =>
  intro k σ h hT hk hb hR
  have hN2 : nn (yF 255 (yN 255 f k)) = nn f := (yN_inv (m := 255) h.i (k + 1)).2
  refine g_iload (by decide +kernel : decode prog_1_method_43_code 42 = .ok (.iload 4, 2)) rfl ?_
  refine g_iload_n (by decide +kernel : decode prog_1_method_43_code 44 = .ok (.iload_n 2, 1)) rfl ?_
  refine g_icmp_geN (tgt := 72) (by decide +kernel : decode prog_1_method_43_code 45 = .ok (.if_icmp .ge 27, 3)) (by decide) (by omega) (by omega) (fun h45 => ?_) (fun h45 => ?_)
  · refine g_aload_n (by decide +kernel : decode prog_1_method_43_code 72 = .ok (.aload_n 0, 1)) rfl ?_
    refine g_getR (by decide +kernel : decode prog_1_method_43_code 73 = .ok (.getfield 37, 3)) fl_LS_37 rfl rfl ?_
    refine g_iload_n (by decide +kernel : decode prog_1_method_43_code 76 = .ok (.iload_n 2, 1)) rfl ?_
    refine g_putI (by decide +kernel : decode prog_1_method_43_code 77 = .ok (.putfield 91, 3)) fl_LS_91 rfl rfl ?_
    have p80 := h.rwn (n := n) (by omega)
    refine g_iload_n (by decide +kernel : decode prog_1_method_43_code 80 = .ok (.iload_n 2, 1)) rfl ?_
    obtain rfl : k = n := by omega
    exact g_iret hR (by decide +kernel : decode prog_1_method_43_code 81 = .ok (.ireturn, 1)) rfl ⟨_, rfl, rfl, p80⟩
  · refine g_aload_n (by decide +kernel : decode prog_1_method_43_code 48 = .ok (.aload_n 3, 1)) rfl ?_
    refine g_sipush (v := nI 255) (by decide +kernel : decode prog_1_method_43_code 49 = .ok (.sipush 255, 3)) (by decide) ?_
    refine g_callVV [.int (nI 255)] (by decide +kernel : decode prog_1_method_43_code 52 = .ok (.invokevirtual 244, 3)) lk_LS_244 (t_passYear h hT (m := 255) (by decide)) rfl rfl rfl rfl (Nat.le_of_ble_eq_true rfl) (Nat.le_of_ble_eq_true rfl) (fun s52 h52 => ?_)
    obtain ⟨g52, u52, r52⟩ := h52
    refine g_aload_n (by decide +kernel : decode prog_1_method_43_code 55 = .ok (.aload_n 0, 1)) rfl ?_
    refine g_getR (by decide +kernel : decode prog_1_method_43_code 56 = .ok (.getfield 37, 3)) fl_LS_37 rfl rfl ?_
    refine g_iload (by decide +kernel : decode prog_1_method_43_code 59 = .ok (.iload 4, 2)) rfl ?_
    refine g_aload_n (by decide +kernel : decode prog_1_method_43_code 61 = .ok (.aload_n 3, 1)) rfl ?_
    refine g_iload_n (by decide +kernel : decode prog_1_method_43_code 62 = .ok (.iload_n 1, 1)) rfl ?_
    refine g_callVV [.int (nI k), .ref 10, .int (nI o)] (by decide +kernel : decode prog_1_method_43_code 63 = .ok (.invokevirtual 248, 3)) lk_LS_248 (c_rwrite u52 (k := k) (o := o) (by rw [hN2]; exact ho) (by omega)) rfl rfl rfl rfl (Nat.le_of_ble_eq_true rfl) (Nat.le_of_ble_eq_true rfl) (fun s63 h63 => ?_)
    obtain rfl := h63
    have p63 := g52.rw3 k (yN 255 f (k + 1) (19 + 6 * o + 3)) (yN 255 f (k + 1) (19 + 6 * o + 4)) (yN 255 f (k + 1) (19 + 6 * o + 5))
    rw [s_row2] at p63
    refine g_iincN (n := 1) (L' := [some (.ref 0), some (.int (nI o)), some (.int (nI n)), some (.ref 10), some (.int (nI (k + 1)))]) (by decide +kernel : decode prog_1_method_43_code 66 = .ok (.iinc 4 1, 3)) rfl (by decide) (Nat.le_of_ble_eq_true rfl) rfl ?_
    refine g_goto (tgt := 42) (by decide +kernel : decode prog_1_method_43_code 69 = .ok (.goto (-27), 3)) (by decide) ?_
    exact ih (k + 1) _ p63 u52 (by omega) (by omega) hR
set_option maxRecDepth 20000 in
theorem k_prove {σ τ : Store} {f : Row} (h : RX σ τ f) (x y : Int32) : Ct ΛC mt_LS_prove 4 [.ref 0, .int x, .int y] σ (cP (proveS τ f x y) (proveV f x y) f) := by
  refine Ct.of (by decide) (Nat.le_of_ble_eq_true rfl) (fun X hR => ?_)
  show G (ΛC, mt_LS_prove, 4) X σ [some (.ref 0), some (.int x), some (.int y), none, none] [] 0
  have hn8 := h.n8
  refine g_aload_n (by decide +kernel : decode prog_1_method_43_code 0 = .ok (.aload_n 0, 1)) rfl ?_
  refine g_getR (by decide +kernel : decode prog_1_method_43_code 1 = .ok (.getfield 20, 3)) fl_LS_20 rfl rfl ?_
  refine g_iload_n (by decide +kernel : decode prog_1_method_43_code 4 = .ok (.iload_n 1, 1)) rfl ?_
  refine g_callVI [.int x] (by decide +kernel : decode prog_1_method_43_code 5 = .ok (.invokevirtual 116, 3)) lk_LS_116 (n_has h.n x) rfl rfl rfl rfl (Nat.le_of_ble_eq_true rfl) (Nat.le_of_ble_eq_true rfl) (fun r5 s5 h5 => ?_)
  rcases h5 with ⟨e5, ⟨rfl, o, ho5, rfl⟩ | ⟨rfl, n5⟩⟩
  · have e5 := e5.symm; subst e5
    refine g_if_eqN (tgt := 21) (by decide +kernel : decode prog_1_method_43_code 8 = .ok (.ifCond .eq 13, 3)) (by decide) (by decide) (fun h => False.elim (by revert h; decide)) (fun _ => ?_)
    refine g_iload_n (by decide +kernel : decode prog_1_method_43_code 11 = .ok (.iload_n 2, 1)) rfl ?_
    refine g_iconst (v := nI 1) (by decide +kernel : decode prog_1_method_43_code 12 = .ok (.iconst 1, 1)) (by decide) ?_
    refine g_bipush (v := nI 10) (by decide +kernel : decode prog_1_method_43_code 13 = .ok (.bipush 10, 2)) (by decide) ?_
    refine g_callSI [.int y, .int (nI 1), .int (nI 10)] (by decide +kernel : decode prog_1_method_43_code 15 = .ok (.invokestatic 62, 3)) lk_LS_62 (k_within _ y 1 10) rfl rfl (Nat.le_of_ble_eq_true rfl) (Nat.le_of_ble_eq_true rfl) (fun r15 s15 h15 => ?_)
    rcases h15 with ⟨e15, ⟨rfl, n, ha15, hb15, rfl⟩ | ⟨rfl, n15⟩⟩
    · have e15 := e15.symm; subst e15
      refine g_if_neN (tgt := 23) (by decide +kernel : decode prog_1_method_43_code 18 = .ok (.ifCond .ne 5, 3)) (by decide) (by decide) (fun _ => ?_) (fun h => False.elim (by revert h; decide))
      refine g_aload_n (by decide +kernel : decode prog_1_method_43_code 23 = .ok (.aload_n 0, 1)) rfl ?_
      refine g_getR (by decide +kernel : decode prog_1_method_43_code 24 = .ok (.getfield 12, 3)) fl_LS_12 rfl rfl ?_
      refine g_getR (by decide +kernel : decode prog_1_method_43_code 27 = .ok (.getfield 74, 3)) fl_LS_74 rfl rfl ?_
      refine g_astore_n (L' := [some (.ref 0), some (.int (nI o)), some (.int (nI n)), some (.ref 10), none]) (by decide +kernel : decode prog_1_method_43_code 30 = .ok (.astore_n 3, 1)) (Nat.le_of_ble_eq_true rfl) rfl ?_
      refine g_aload_n (by decide +kernel : decode prog_1_method_43_code 31 = .ok (.aload_n 3, 1)) rfl ?_
      refine g_aload_n (by decide +kernel : decode prog_1_method_43_code 32 = .ok (.aload_n 0, 1)) rfl ?_
      refine g_getR (by decide +kernel : decode prog_1_method_43_code 33 = .ok (.getfield 20, 3)) fl_LS_20 rfl rfl ?_
      refine g_callVV [.ref 1] (by decide +kernel : decode prog_1_method_43_code 36 = .ok (.invokevirtual 87, 3)) lk_LS_87 (c_becTN h) rfl rfl rfl rfl (Nat.le_of_ble_eq_true rfl) (Nat.le_of_ble_eq_true rfl) (fun s36 h36 => ?_)
      obtain ⟨g36, u36⟩ := h36
      refine g_iconst (v := nI 0) (by decide +kernel : decode prog_1_method_43_code 39 = .ok (.iconst 0, 1)) (by decide) ?_
      refine g_istore (L' := [some (.ref 0), some (.int (nI o)), some (.int (nI n)), some (.ref 10), some (.int (nI 0))]) (by decide +kernel : decode prog_1_method_43_code 40 = .ok (.istore 4, 2)) (Nat.le_of_ble_eq_true rfl) rfl ?_
      have eV : proveV f (nI o) (nI n) = nI n := by simp only [proveV, pz_of h.i ho5, rg_of ha15 hb15]
      have eS : proveS τ f (nI o) (nI n) = s_up (s_row τ 7 (prF f o (τ 7) n)) 0 14 (nI n) := by simp only [proveS, pz_of h.i ho5, rg_of ha15 hb15]
      rw [eV, eS] at hR
      exact k_prove_lp (by omega) (by omega) (n + 1) 0 _ (by show RX _ (s_row τ 7 (τ 7)) f; rw [s_row_self]; exact g36) u36 (by omega) (by omega) hR
    · have e15 := e15.symm; subst e15
      refine g_if_neN (tgt := 23) (by decide +kernel : decode prog_1_method_43_code 18 = .ok (.ifCond .ne 5, 3)) (by decide) (by decide) (fun h => False.elim (by revert h; decide)) (fun _ => ?_)
      refine g_iconst (v := (-1)) (by decide +kernel : decode prog_1_method_43_code 21 = .ok (.iconst (-1), 1)) (by decide) ?_
      exact g_iret hR (by decide +kernel : decode prog_1_method_43_code 22 = .ok (.ireturn, 1)) rfl ⟨_, rfl, ⟨by first | (simp only [proveV, pz_of h.i ho5, rg_none n15]; done) | (simp only [proveV, pz_of h.i ho5, rg_none n15]; rfl), by simp only [proveS, pz_of h.i ho5, rg_none n15]; exact h⟩⟩
  · have e5 := e5.symm; subst e5
    refine g_if_eqN (tgt := 21) (by decide +kernel : decode prog_1_method_43_code 8 = .ok (.ifCond .eq 13, 3)) (by decide) (by decide) (fun _ => ?_) (fun h => False.elim (by revert h; decide))
    refine g_iconst (v := (-1)) (by decide +kernel : decode prog_1_method_43_code 21 = .ok (.iconst (-1), 1)) (by decide) ?_
    exact g_iret hR (by decide +kernel : decode prog_1_method_43_code 22 = .ok (.ireturn, 1)) rfl ⟨_, rfl, ⟨by first | (simp only [proveV, pz_none h.i n5]; done) | (simp only [proveV, pz_none h.i n5]; rfl), by simp only [proveS, pz_none h.i n5]; exact h⟩⟩
set_option maxRecDepth 20000 in
theorem k_row {σ τ : Store} {f : Row} (h : RX σ τ f) (x y : Int32) : Ct ΛC mt_LS_row 1 [.ref 0, .int x, .int y] σ (cP τ (rowV τ x y) f) := by
  refine Ct.of (by decide) (Nat.le_of_ble_eq_true rfl) (fun X hR => ?_)
  show G (ΛC, mt_LS_row, 1) X σ [some (.ref 0), some (.int x), some (.int y)] [] 0
  have hn8 := h.n8
  obtain ⟨r, hr, er, er2, ey⟩ := h.2.2.2.1
  have htn : tn (τ 0 14) = r := by rw [er2, tn_nI (by omega)]
  refine g_aload_n (by decide +kernel : decode prog_1_method_44_code 0 = .ok (.aload_n 0, 1)) rfl ?_
  refine g_getR (by decide +kernel : decode prog_1_method_44_code 1 = .ok (.getfield 37, 3)) fl_LS_37 rfl rfl ?_
  refine g_iload_n (by decide +kernel : decode prog_1_method_44_code 4 = .ok (.iload_n 1, 1)) rfl ?_
  refine g_iload_n (by decide +kernel : decode prog_1_method_44_code 5 = .ok (.iload_n 2, 1)) rfl ?_
  refine g_callVI [.int x, .int y] (by decide +kernel : decode prog_1_method_44_code 6 = .ok (.invokevirtual 252, 3)) lk_LS_252 (c_rhas _ x y er hr) rfl rfl rfl rfl (Nat.le_of_ble_eq_true rfl) (Nat.le_of_ble_eq_true rfl) (fun r6 s6 h6 => ?_)
  rcases h6 with ⟨e6, ⟨rfl, ⟨j, hj, rfl⟩, w, hw0, hw, rfl⟩ | ⟨rfl, no⟩⟩
  · have e6 := e6.symm; subst e6
    refine g_if_eqN (tgt := 28) (by decide +kernel : decode prog_1_method_44_code 9 = .ok (.ifCond .eq 19, 3)) (by decide) (by decide) (fun h => False.elim (by revert h; decide)) (fun _ => ?_)
    refine g_aload_n (by decide +kernel : decode prog_1_method_44_code 12 = .ok (.aload_n 0, 1)) rfl ?_
    refine g_getR (by decide +kernel : decode prog_1_method_44_code 13 = .ok (.getfield 37, 3)) fl_LS_37 rfl rfl ?_
    refine g_getR (by decide +kernel : decode prog_1_method_44_code 16 = .ok (.getfield 255, 3)) fl_LS_255 rfl rfl ?_
    refine g_iload_n (by decide +kernel : decode prog_1_method_44_code 19 = .ok (.iload_n 1, 1)) rfl ?_
    refine g_iconst (v := nI 3) (by decide +kernel : decode prog_1_method_44_code 20 = .ok (.iconst 3, 1)) (by decide) ?_
    refine g_imulN (by decide +kernel : decode prog_1_method_44_code 21 = .ok (.imul, 1)) ?_
    refine g_iload_n (by decide +kernel : decode prog_1_method_44_code 22 = .ok (.iload_n 2, 1)) rfl ?_
    refine g_iaddN (by decide +kernel : decode prog_1_method_44_code 23 = .ok (.iadd, 1)) ?_
    refine g_iaload (a := 3 * j + w) (by decide +kernel : decode prog_1_method_44_code 24 = .ok (.iaload, 1)) rfl (by rw [Nat.mul_comm j 3]) (by omega) (by decide) ?_
    refine g_top (w := τ 7 (3 * j + w)) (ey _ (by omega)) ?_
    refine g_goto (tgt := 30) (by decide +kernel : decode prog_1_method_44_code 25 = .ok (.goto 5, 3)) (by decide) ?_
    exact g_iret hR (by decide +kernel : decode prog_1_method_44_code 30 = .ok (.ireturn, 1)) rfl ⟨_, rfl, ⟨by first | (simp only [rowV, rix_of (show r < 2 ^ 31 by omega) hj hw, htn]; done) | (simp only [rowV, rix_of (show r < 2 ^ 31 by omega) hj hw, htn]; rfl), h⟩⟩
  · have e6 := e6.symm; subst e6
    refine g_if_eqN (tgt := 28) (by decide +kernel : decode prog_1_method_44_code 9 = .ok (.ifCond .eq 19, 3)) (by decide) (by decide) (fun _ => ?_) (fun h => False.elim (by revert h; decide))
    refine g_bipush (v := (-9)) (by decide +kernel : decode prog_1_method_44_code 28 = .ok (.bipush (-9), 2)) (by decide) ?_
    exact g_iret hR (by decide +kernel : decode prog_1_method_44_code 30 = .ok (.ireturn, 1)) rfl ⟨_, rfl, ⟨by first | (simp only [rowV, rix_none (show r < 2 ^ 31 by omega) no, htn]; done) | (simp only [rowV, rix_none (show r < 2 ^ 31 by omega) no, htn]; rfl), h⟩⟩
set_option maxRecDepth 20000 in
theorem k_alterRow {σ τ : Store} {f : Row} (h : RX σ τ f) (x y z : Int32) : Ct ΛC mt_LS_alterRow 1 [.ref 0, .int x, .int y, .int z] σ (cP (altS τ x y z) (rowV τ x y) f) := by
  refine Ct.of (by decide) (Nat.le_of_ble_eq_true rfl) (fun X hR => ?_)
  show G (ΛC, mt_LS_alterRow, 1) X σ [some (.ref 0), some (.int x), some (.int y), some (.int z), none] [] 0
  have hn8 := h.n8
  obtain ⟨r, hr, er, er2, ey⟩ := h.2.2.2.1
  have htn : tn (τ 0 14) = r := by rw [er2, tn_nI (by omega)]
  refine g_aload_n (by decide +kernel : decode prog_1_method_45_code 0 = .ok (.aload_n 0, 1)) rfl ?_
  refine g_getR (by decide +kernel : decode prog_1_method_45_code 1 = .ok (.getfield 37, 3)) fl_LS_37 rfl rfl ?_
  refine g_iload_n (by decide +kernel : decode prog_1_method_45_code 4 = .ok (.iload_n 1, 1)) rfl ?_
  refine g_iload_n (by decide +kernel : decode prog_1_method_45_code 5 = .ok (.iload_n 2, 1)) rfl ?_
  refine g_callVI [.int x, .int y] (by decide +kernel : decode prog_1_method_45_code 6 = .ok (.invokevirtual 252, 3)) lk_LS_252 (c_rhas _ x y er hr) rfl rfl rfl rfl (Nat.le_of_ble_eq_true rfl) (Nat.le_of_ble_eq_true rfl) (fun r6 s6 h6 => ?_)
  rcases h6 with ⟨e6, ⟨rfl, ⟨j, hj, rfl⟩, w, hw0, hw, rfl⟩ | ⟨rfl, no⟩⟩
  · have e6 := e6.symm; subst e6
    refine g_if_neN (tgt := 15) (by decide +kernel : decode prog_1_method_45_code 9 = .ok (.ifCond .ne 6, 3)) (by decide) (by decide) (fun _ => ?_) (fun h => False.elim (by revert h; decide))
    refine g_aload_n (by decide +kernel : decode prog_1_method_45_code 15 = .ok (.aload_n 0, 1)) rfl ?_
    refine g_getR (by decide +kernel : decode prog_1_method_45_code 16 = .ok (.getfield 37, 3)) fl_LS_37 rfl rfl ?_
    refine g_getR (by decide +kernel : decode prog_1_method_45_code 19 = .ok (.getfield 255, 3)) fl_LS_255 rfl rfl ?_
    refine g_iload_n (by decide +kernel : decode prog_1_method_45_code 22 = .ok (.iload_n 1, 1)) rfl ?_
    refine g_iconst (v := nI 3) (by decide +kernel : decode prog_1_method_45_code 23 = .ok (.iconst 3, 1)) (by decide) ?_
    refine g_imulN (by decide +kernel : decode prog_1_method_45_code 24 = .ok (.imul, 1)) ?_
    refine g_iload_n (by decide +kernel : decode prog_1_method_45_code 25 = .ok (.iload_n 2, 1)) rfl ?_
    refine g_iaddN (by decide +kernel : decode prog_1_method_45_code 26 = .ok (.iadd, 1)) ?_
    refine g_iaload (a := 3 * j + w) (by decide +kernel : decode prog_1_method_45_code 27 = .ok (.iaload, 1)) rfl (by rw [Nat.mul_comm j 3]) (by omega) (by decide) ?_
    refine g_top (w := τ 7 (3 * j + w)) (ey _ (by omega)) ?_
    refine g_istore (L' := [some (.ref 0), some (.int (nI j)), some (.int (nI w)), some (.int z), some (.int (τ 7 (3 * j + w)))]) (by decide +kernel : decode prog_1_method_45_code 28 = .ok (.istore 4, 2)) (Nat.le_of_ble_eq_true rfl) rfl ?_
    refine g_aload_n (by decide +kernel : decode prog_1_method_45_code 30 = .ok (.aload_n 0, 1)) rfl ?_
    refine g_getR (by decide +kernel : decode prog_1_method_45_code 31 = .ok (.getfield 37, 3)) fl_LS_37 rfl rfl ?_
    refine g_getR (by decide +kernel : decode prog_1_method_45_code 34 = .ok (.getfield 255, 3)) fl_LS_255 rfl rfl ?_
    refine g_iload_n (by decide +kernel : decode prog_1_method_45_code 37 = .ok (.iload_n 1, 1)) rfl ?_
    refine g_iconst (v := nI 3) (by decide +kernel : decode prog_1_method_45_code 38 = .ok (.iconst 3, 1)) (by decide) ?_
    refine g_imulN (by decide +kernel : decode prog_1_method_45_code 39 = .ok (.imul, 1)) ?_
    refine g_iload_n (by decide +kernel : decode prog_1_method_45_code 40 = .ok (.iload_n 2, 1)) rfl ?_
    refine g_iaddN (by decide +kernel : decode prog_1_method_45_code 41 = .ok (.iadd, 1)) ?_
    refine g_iload_n (by decide +kernel : decode prog_1_method_45_code 42 = .ok (.iload_n 3, 1)) rfl ?_
    refine g_iastore (a := 3 * j + w) (by decide +kernel : decode prog_1_method_45_code 43 = .ok (.iastore, 1)) rfl (by rw [Nat.mul_comm j 3]) (by omega) (by decide) ?_
    have p44 := h.rw1 (3 * j + w) z
    refine g_iload (by decide +kernel : decode prog_1_method_45_code 44 = .ok (.iload 4, 2)) rfl ?_
    exact g_iret hR (by decide +kernel : decode prog_1_method_45_code 46 = .ok (.ireturn, 1)) rfl ⟨_, rfl, ⟨by simp only [rowV, htn, rix_of (show r < 2 ^ 31 by omega) hj hw], by simp only [altS, htn, rix_of (show r < 2 ^ 31 by omega) hj hw]; exact p44⟩⟩
  · have e6 := e6.symm; subst e6
    refine g_if_neN (tgt := 15) (by decide +kernel : decode prog_1_method_45_code 9 = .ok (.ifCond .ne 6, 3)) (by decide) (by decide) (fun h => False.elim (by revert h; decide)) (fun _ => ?_)
    refine g_bipush (v := (-9)) (by decide +kernel : decode prog_1_method_45_code 12 = .ok (.bipush (-9), 2)) (by decide) ?_
    exact g_iret hR (by decide +kernel : decode prog_1_method_45_code 14 = .ok (.ireturn, 1)) rfl ⟨_, rfl, ⟨by simp only [rowV, htn, rix_none (show r < 2 ^ 31 by omega) no], by simp only [altS, htn, rix_none (show r < 2 ^ 31 by omega) no]; exact h⟩⟩
set_option maxRecDepth 20000 in
theorem k_judge_lp {X : CX} {τ : Store} {f : Row} {o r t : Nat} (ho : o < nn f) (er5 : τ 0 14 = nI r) (hr : r ≤ 10) : ∀ (b9 k : Nat) (σ : Store), RX σ τ f → RP (tV σ) (yN 255 f k) → k ≤ r → r - k < b9 → jdF f o (τ 7) (r - k) k = t → Rt (ΛC, mt_LS_judge, 4) (cP τ (nI t) f) X → G (ΛC, mt_LS_judge, 4) X σ [some (.ref 0), some (.int (nI o)), some (.ref 10), some (.int (nI k))] [] 31 := by
  intro b9
  induction b9 with
  | zero => intro k σ h hT hk hb ht hR; omega
  | succ b9 ih =>
  intro k σ h hT hk hb ht hR
  have hN2 : nn (yF 255 (yN 255 f k)) = nn f := (yN_inv (m := 255) h.i (k + 1)).2
  have er : σ 31 1 = nI r := by obtain ⟨r3, _, a1, a2, _⟩ := h.2.2.2.1; rw [a1, ← a2, er5]
  refine g_iload_n (by decide +kernel : decode prog_1_method_46_code 31 = .ok (.iload_n 3, 1)) rfl ?_
  refine g_aload_n (by decide +kernel : decode prog_1_method_46_code 32 = .ok (.aload_n 0, 1)) rfl ?_
  refine g_getR (by decide +kernel : decode prog_1_method_46_code 33 = .ok (.getfield 37, 3)) fl_LS_37 rfl rfl ?_
  refine g_getI (by decide +kernel : decode prog_1_method_46_code 36 = .ok (.getfield 91, 3)) fl_LS_91.get rfl rfl ?_
  refine g_top (w := nI r) (er) ?_
  refine g_icmp_geN (tgt := 72) (by decide +kernel : decode prog_1_method_46_code 39 = .ok (.if_icmp .ge 33, 3)) (by decide) (by omega) (by omega) (fun h39 => ?_) (fun h39 => ?_)
  · refine g_iconst (v := nI 0) (by decide +kernel : decode prog_1_method_46_code 72 = .ok (.iconst 0, 1)) (by decide) ?_
    obtain rfl : k = r := by omega
    exact g_iret hR (by decide +kernel : decode prog_1_method_46_code 73 = .ok (.ireturn, 1)) rfl ⟨_, rfl, by rw [← ht, Nat.sub_self]; rfl, h⟩
  · refine g_aload_n (by decide +kernel : decode prog_1_method_46_code 42 = .ok (.aload_n 2, 1)) rfl ?_
    refine g_sipush (v := nI 255) (by decide +kernel : decode prog_1_method_46_code 43 = .ok (.sipush 255, 3)) (by decide) ?_
    refine g_callVV [.int (nI 255)] (by decide +kernel : decode prog_1_method_46_code 46 = .ok (.invokevirtual 244, 3)) lk_LS_244 (t_passYear h hT (m := 255) (by decide)) rfl rfl rfl rfl (Nat.le_of_ble_eq_true rfl) (Nat.le_of_ble_eq_true rfl) (fun s46 h46 => ?_)
    obtain ⟨g46, u46, r46⟩ := h46
    obtain ⟨r2, hr2, er3, er4, ey2⟩ := g46.2.2.2.1
    refine g_aload_n (by decide +kernel : decode prog_1_method_46_code 49 = .ok (.aload_n 0, 1)) rfl ?_
    refine g_getR (by decide +kernel : decode prog_1_method_46_code 50 = .ok (.getfield 37, 3)) fl_LS_37 rfl rfl ?_
    refine g_iload_n (by decide +kernel : decode prog_1_method_46_code 53 = .ok (.iload_n 3, 1)) rfl ?_
    refine g_aload_n (by decide +kernel : decode prog_1_method_46_code 54 = .ok (.aload_n 2, 1)) rfl ?_
    refine g_iload_n (by decide +kernel : decode prog_1_method_46_code 55 = .ok (.iload_n 1, 1)) rfl ?_
    refine g_callVI [.int (nI k), .ref 10, .int (nI o)] (by decide +kernel : decode prog_1_method_46_code 56 = .ok (.invokevirtual 258, 3)) lk_LS_258 (c_isRight u46 (k := k) (o := o) (by rw [hN2]; exact ho) (by omega)) rfl rfl rfl rfl (Nat.le_of_ble_eq_true rfl) (Nat.le_of_ble_eq_true rfl) (fun r56 s56 h56 => ?_)
    rcases h56 with ⟨e56, ⟨rfl, q56⟩ | ⟨rfl, q56⟩⟩
    · have e56 := e56.symm; subst e56
      rw [ey2 (3 * k + 0) (by omega), ey2 (3 * k + 1) (by omega), ey2 (3 * k + 2) (by omega)] at q56
      refine g_if_neN (tgt := 66) (by decide +kernel : decode prog_1_method_46_code 59 = .ok (.ifCond .ne 7, 3)) (by decide) (by decide) (fun _ => ?_) (fun h => False.elim (by revert h; decide))
      refine g_iincN (n := 1) (L' := [some (.ref 0), some (.int (nI o)), some (.ref 10), some (.int (nI (k + 1)))]) (by decide +kernel : decode prog_1_method_46_code 66 = .ok (.iinc 3 1, 3)) rfl (by decide) (Nat.le_of_ble_eq_true rfl) rfl ?_
      refine g_goto (tgt := 31) (by decide +kernel : decode prog_1_method_46_code 69 = .ok (.goto (-38), 3)) (by decide) ?_
      exact ih (k + 1) _ g46 u46 (by omega) (by omega) ((jd_yes (by omega) q56).symm.trans ht) hR
    · have e56 := e56.symm; subst e56
      rw [ey2 (3 * k + 0) (by omega), ey2 (3 * k + 1) (by omega), ey2 (3 * k + 2) (by omega)] at q56
      refine g_if_neN (tgt := 66) (by decide +kernel : decode prog_1_method_46_code 59 = .ok (.ifCond .ne 7, 3)) (by decide) (by decide) (fun h => False.elim (by revert h; decide)) (fun _ => ?_)
      refine g_iload_n (by decide +kernel : decode prog_1_method_46_code 62 = .ok (.iload_n 3, 1)) rfl ?_
      refine g_iconst (v := nI 1) (by decide +kernel : decode prog_1_method_46_code 63 = .ok (.iconst 1, 1)) (by decide) ?_
      refine g_iaddN (by decide +kernel : decode prog_1_method_46_code 64 = .ok (.iadd, 1)) ?_
      exact g_iret hR (by decide +kernel : decode prog_1_method_46_code 65 = .ok (.ireturn, 1)) rfl ⟨_, rfl, by rw [← ht, jd_no (by omega) q56], g46⟩
set_option maxRecDepth 20000 in
theorem k_judge {σ τ : Store} {f : Row} (h : RX σ τ f) (x : Int32) : Ct ΛC mt_LS_judge 4 [.ref 0, .int x] σ (cP τ (judgeV τ f x) f) := by
  refine Ct.of (by decide) (Nat.le_of_ble_eq_true rfl) (fun X hR => ?_)
  show G (ΛC, mt_LS_judge, 4) X σ [some (.ref 0), some (.int x), none, none] [] 0
  have hn8 := h.n8
  obtain ⟨r, hr, er, er2, ey⟩ := h.2.2.2.1
  have htn : tn (τ 0 14) = r := by rw [er2, tn_nI (by omega)]
  refine g_aload_n (by decide +kernel : decode prog_1_method_46_code 0 = .ok (.aload_n 0, 1)) rfl ?_
  refine g_getR (by decide +kernel : decode prog_1_method_46_code 1 = .ok (.getfield 20, 3)) fl_LS_20 rfl rfl ?_
  refine g_iload_n (by decide +kernel : decode prog_1_method_46_code 4 = .ok (.iload_n 1, 1)) rfl ?_
  refine g_callVI [.int x] (by decide +kernel : decode prog_1_method_46_code 5 = .ok (.invokevirtual 116, 3)) lk_LS_116 (n_has h.n x) rfl rfl rfl rfl (Nat.le_of_ble_eq_true rfl) (Nat.le_of_ble_eq_true rfl) (fun r5 s5 h5 => ?_)
  rcases h5 with ⟨e5, ⟨rfl, o, ho5, rfl⟩ | ⟨rfl, n5⟩⟩
  · have e5 := e5.symm; subst e5
    refine g_if_neN (tgt := 13) (by decide +kernel : decode prog_1_method_46_code 8 = .ok (.ifCond .ne 5, 3)) (by decide) (by decide) (fun _ => ?_) (fun h => False.elim (by revert h; decide))
    refine g_aload_n (by decide +kernel : decode prog_1_method_46_code 13 = .ok (.aload_n 0, 1)) rfl ?_
    refine g_getR (by decide +kernel : decode prog_1_method_46_code 14 = .ok (.getfield 12, 3)) fl_LS_12 rfl rfl ?_
    refine g_getR (by decide +kernel : decode prog_1_method_46_code 17 = .ok (.getfield 74, 3)) fl_LS_74 rfl rfl ?_
    refine g_astore_n (L' := [some (.ref 0), some (.int (nI o)), some (.ref 10), none]) (by decide +kernel : decode prog_1_method_46_code 20 = .ok (.astore_n 2, 1)) (Nat.le_of_ble_eq_true rfl) rfl ?_
    refine g_aload_n (by decide +kernel : decode prog_1_method_46_code 21 = .ok (.aload_n 2, 1)) rfl ?_
    refine g_aload_n (by decide +kernel : decode prog_1_method_46_code 22 = .ok (.aload_n 0, 1)) rfl ?_
    refine g_getR (by decide +kernel : decode prog_1_method_46_code 23 = .ok (.getfield 20, 3)) fl_LS_20 rfl rfl ?_
    refine g_callVV [.ref 1] (by decide +kernel : decode prog_1_method_46_code 26 = .ok (.invokevirtual 87, 3)) lk_LS_87 (c_becTN h) rfl rfl rfl rfl (Nat.le_of_ble_eq_true rfl) (Nat.le_of_ble_eq_true rfl) (fun s26 h26 => ?_)
    obtain ⟨g26, u26⟩ := h26
    refine g_iconst (v := nI 0) (by decide +kernel : decode prog_1_method_46_code 29 = .ok (.iconst 0, 1)) (by decide) ?_
    refine g_istore_n (L' := [some (.ref 0), some (.int (nI o)), some (.ref 10), some (.int (nI 0))]) (by decide +kernel : decode prog_1_method_46_code 30 = .ok (.istore_n 3, 1)) (Nat.le_of_ble_eq_true rfl) rfl ?_
    have eV : judgeV τ f (nI o) = nI (jdF f o (τ 7) (r - 0) 0) := by simp only [judgeV, htn, pz_of h.i ho5]; rfl
    rw [eV] at hR
    exact k_judge_lp (by omega) er2 hr (r + 1) 0 _ g26 u26 (by omega) (by omega) rfl hR
  · have e5 := e5.symm; subst e5
    refine g_if_neN (tgt := 13) (by decide +kernel : decode prog_1_method_46_code 8 = .ok (.ifCond .ne 5, 3)) (by decide) (by decide) (fun h => False.elim (by revert h; decide)) (fun _ => ?_)
    refine g_iconst (v := (-1)) (by decide +kernel : decode prog_1_method_46_code 11 = .ok (.iconst (-1), 1)) (by decide) ?_
    exact g_iret hR (by decide +kernel : decode prog_1_method_46_code 12 = .ok (.ireturn, 1)) rfl ⟨_, rfl, ⟨by first | (simp only [judgeV, pz_none h.i n5]; done) | (simp only [judgeV, pz_none h.i n5]; rfl), h⟩⟩
theorem e8_pos {x : Int32} {s : Nat} (es : x = nI s) (h : s = 0) {α : Type} {a b : α} : (if x = nI 0 then a else b) = a := if_pos (by rw [es, h])
theorem e8_neg {x : Int32} {s : Nat} (hs : s ≤ 3) (es : x = nI s) (h : ¬ s = 0) {α : Type} {a b : α} : (if x = nI 0 then a else b) = b := if_neg (fun q => h ((nI_eq (by omega) (by decide)).mp (es.symm.trans q)))
theorem cl9 (v : Int32) : (if nI 0 < (if v < nI 9 then v else nI 9) then (if v < nI 9 then v else nI 9) else nI 0) = clamp9 v := by
  unfold clamp9
  by_cases h0 : 0 ≤ v
  · rw [if_pos h0]
    by_cases h9 : v < nI 9
    · rw [if_pos h9, if_pos (Int32.le_of_lt h9)]
      by_cases hz : nI 0 < v
      · rw [if_pos hz]
      · rw [if_neg hz]
        exact Int32.le_antisymm h0 (Int32.not_lt.mp hz)
    · rw [if_neg h9, if_pos (by decide)]
      by_cases h8 : v ≤ nI 9
      · rw [if_pos h8]
        exact Int32.le_antisymm (Int32.not_lt.mp h9) h8
      · rw [if_neg h8]
  · rw [if_neg h0]
    have h1 : v < 0 := Int32.not_le.mp h0
    have h9 : v < nI 9 := Int32.lt_trans h1 (by decide)
    rw [if_pos h9, if_neg]
    exact fun q => h0 (Int32.le_of_lt q)
set_option maxRecDepth 20000 in
theorem k_minds_lp {X : CX} {τ : Store} {f : Row} {t i o n sn : Nat} (ht : t ≤ 3) (en : τ 9 t = nI sn) (hsn : sn ≤ 40) (hi : i + n ≤ sn) (ho : o + n ≤ 8) : ∀ (b9 k : Nat) (σ : Store), RX σ τ (mdF f (τ 10) o (40 * t + i) k) → k ≤ n → n - k < b9 → Rt (ΛC, mt_LS_minds, 2) (cP τ (nI n) (mdF f (τ 10) o (40 * t + i) n)) X → G (ΛC, mt_LS_minds, 2) X σ [some (.ref 0), some (.int (nI t)), some (.int (nI i)), some (.int (nI o)), some (.int (nI n)), some (.int (nI k))] [] 115 := by
  intro b9
  induction b9 with
  | zero => intro k σ h hk hb hR; omega
  | succ b9 ih =>
  intro k σ h hk hb hR
  refine g_iload (by decide +kernel : decode prog_1_method_47_code 115 = .ok (.iload 5, 2)) rfl ?_
  refine g_iload (by decide +kernel : decode prog_1_method_47_code 117 = .ok (.iload 4, 2)) rfl ?_
  refine g_icmp_geN (tgt := 161) (by decide +kernel : decode prog_1_method_47_code 119 = .ok (.if_icmp .ge 42, 3)) (by decide) (by omega) (by omega) (fun h119 => ?_) (fun h119 => ?_)
  · refine g_iload (by decide +kernel : decode prog_1_method_47_code 161 = .ok (.iload 4, 2)) rfl ?_
    obtain rfl : k = n := by omega
    exact g_iret hR (by decide +kernel : decode prog_1_method_47_code 163 = .ok (.ireturn, 1)) rfl ⟨_, rfl, rfl, h⟩
  · refine g_aload_n (by decide +kernel : decode prog_1_method_47_code 122 = .ok (.aload_n 0, 1)) rfl ?_
    refine g_getR (by decide +kernel : decode prog_1_method_47_code 123 = .ok (.getfield 20, 3)) fl_LS_20 rfl rfl ?_
    refine g_getR (by decide +kernel : decode prog_1_method_47_code 126 = .ok (.getfield 125, 3)) fl_LS_125 rfl rfl ?_
    refine g_iload_n (by decide +kernel : decode prog_1_method_47_code 129 = .ok (.iload_n 3, 1)) rfl ?_
    refine g_iload (by decide +kernel : decode prog_1_method_47_code 130 = .ok (.iload 5, 2)) rfl ?_
    refine g_iaddN (by decide +kernel : decode prog_1_method_47_code 132 = .ok (.iadd, 1)) ?_
    refine g_iconst (v := nI 0) (by decide +kernel : decode prog_1_method_47_code 133 = .ok (.iconst 0, 1)) (by decide) ?_
    refine g_bipush (v := nI 9) (by decide +kernel : decode prog_1_method_47_code 134 = .ok (.bipush 9, 2)) (by decide) ?_
    refine g_aload_n (by decide +kernel : decode prog_1_method_47_code 136 = .ok (.aload_n 0, 1)) rfl ?_
    refine g_getR (by decide +kernel : decode prog_1_method_47_code 137 = .ok (.getfield 44, 3)) fl_LS_44 rfl rfl ?_
    refine g_iload_n (by decide +kernel : decode prog_1_method_47_code 140 = .ok (.iload_n 1, 1)) rfl ?_
    refine g_iload_n (by decide +kernel : decode prog_1_method_47_code 141 = .ok (.iload_n 2, 1)) rfl ?_
    refine g_iload (by decide +kernel : decode prog_1_method_47_code 142 = .ok (.iload 5, 2)) rfl ?_
    refine g_iaddN (by decide +kernel : decode prog_1_method_47_code 144 = .ok (.iadd, 1)) ?_
    refine g_callVI [.int (nI t), .int (nI (i + k))] (by decide +kernel : decode prog_1_method_47_code 145 = .ok (.invokevirtual 267, 3)) lk_LS_267 (c_read _ (t := t) (i := i + k) (by omega) (by omega)) rfl rfl rfl rfl (Nat.le_of_ble_eq_true rfl) (Nat.le_of_ble_eq_true rfl) (fun r145 s145 h145 => ?_)
    obtain ⟨rfl, e145⟩ := h145
    have e145 := e145.symm; subst e145
    refine g_top (w := τ 10 (40 * t + i + k)) ((h.s3 (t := t) (i := i + k) (by omega) en hsn (by omega)).trans (by rw [Nat.add_assoc])) ?_
    refine g_callSI [.int (nI 9), .int (τ 10 (40 * t + i + k))] (by decide +kernel : decode prog_1_method_47_code 148 = .ok (.invokestatic 217, 3)) lk_LS_217 (m_min ΛC _ (nI 9) (τ 10 (40 * t + i + k))) rfl rfl (Nat.le_of_ble_eq_true rfl) (Nat.le_of_ble_eq_true rfl) (fun r148 s148 h148 => ?_)
    obtain ⟨rfl, e148⟩ := h148
    have e148 := e148.symm; subst e148
    refine g_callSI [.int (nI 0), .int (if τ 10 (40 * t + i + k) < nI 9 then τ 10 (40 * t + i + k) else nI 9)] (by decide +kernel : decode prog_1_method_47_code 151 = .ok (.invokestatic 270, 3)) lk_LS_270 (m_max ΛC _ (nI 0) (if τ 10 (40 * t + i + k) < nI 9 then τ 10 (40 * t + i + k) else nI 9)) rfl rfl (Nat.le_of_ble_eq_true rfl) (Nat.le_of_ble_eq_true rfl) (fun r151 s151 h151 => ?_)
    obtain ⟨rfl, e151⟩ := h151
    have e151 := e151.symm; subst e151
    refine g_top (w := clamp9 (τ 10 (40 * t + i + k))) (cl9 _) ?_
    refine g_iastore (a := o + k) (by decide +kernel : decode prog_1_method_47_code 154 = .ok (.iastore, 1)) rfl rfl (by omega) (by decide) ?_
    have p155 := h.w2 (o := o + k) (v := (clamp9 (τ 10 (40 * t + i + k)))) (clamp9_r _)
    refine g_iincN (n := 1) (L' := [some (.ref 0), some (.int (nI t)), some (.int (nI i)), some (.int (nI o)), some (.int (nI n)), some (.int (nI (k + 1)))]) (by decide +kernel : decode prog_1_method_47_code 155 = .ok (.iinc 5 1, 3)) rfl (by decide) (Nat.le_of_ble_eq_true rfl) rfl ?_
    refine g_goto (tgt := 115) (by decide +kernel : decode prog_1_method_47_code 158 = .ok (.goto (-43), 3)) (by decide) ?_
    exact ih (k + 1) _ p155 (by omega) (by omega) hR
set_option maxRecDepth 20000 in
theorem k_minds {σ τ : Store} {f : Row} (h : RX σ τ f) (x y z u : Int32) : Ct ΛC mt_LS_minds 2 [.ref 0, .int x, .int y, .int z, .int u] σ (cP τ (mindsV τ f x y z u) (mindsT τ f x y z u)) := by
  refine Ct.of (by decide) (Nat.le_of_ble_eq_true rfl) (fun X hR => ?_)
  show G (ΛC, mt_LS_minds, 2) X σ [some (.ref 0), some (.int x), some (.int y), some (.int z), some (.int u), none] [] 0
  have hn8 := h.n8
  refine g_iload_n (by decide +kernel : decode prog_1_method_47_code 0 = .ok (.iload_n 1, 1)) rfl ?_
  refine g_callSI [.int x] (by decide +kernel : decode prog_1_method_47_code 1 = .ok (.invokestatic 222, 3)) lk_LS_222 (k_isSheet _ x) rfl rfl (Nat.le_of_ble_eq_true rfl) (Nat.le_of_ble_eq_true rfl) (fun r1 s1 h1 => ?_)
  rcases h1 with ⟨e1, ⟨rfl, t, ha1, hb1, rfl⟩ | ⟨rfl, n1⟩⟩
  · have e1 := e1.symm; subst e1
    refine g_if_eqN (tgt := 29) (by decide +kernel : decode prog_1_method_47_code 4 = .ok (.ifCond .eq 25, 3)) (by decide) (by decide) (fun h => False.elim (by revert h; decide)) (fun _ => ?_)
    refine g_aload_n (by decide +kernel : decode prog_1_method_47_code 7 = .ok (.aload_n 0, 1)) rfl ?_
    refine g_getR (by decide +kernel : decode prog_1_method_47_code 8 = .ok (.getfield 20, 3)) fl_LS_20 rfl rfl ?_
    refine g_iload_n (by decide +kernel : decode prog_1_method_47_code 11 = .ok (.iload_n 3, 1)) rfl ?_
    refine g_callVI [.int z] (by decide +kernel : decode prog_1_method_47_code 12 = .ok (.invokevirtual 116, 3)) lk_LS_116 (n_has h.n z) rfl rfl rfl rfl (Nat.le_of_ble_eq_true rfl) (Nat.le_of_ble_eq_true rfl) (fun r12 s12 h12 => ?_)
    rcases h12 with ⟨e12, ⟨rfl, o, ho12, rfl⟩ | ⟨rfl, n12⟩⟩
    · have e12 := e12.symm; subst e12
      refine g_if_eqN (tgt := 29) (by decide +kernel : decode prog_1_method_47_code 15 = .ok (.ifCond .eq 14, 3)) (by decide) (by decide) (fun h => False.elim (by revert h; decide)) (fun _ => ?_)
      refine g_iload (by decide +kernel : decode prog_1_method_47_code 18 = .ok (.iload 4, 2)) rfl ?_
      refine g_iconst (v := nI 0) (by decide +kernel : decode prog_1_method_47_code 20 = .ok (.iconst 0, 1)) (by decide) ?_
      refine g_bipush (v := nI 8) (by decide +kernel : decode prog_1_method_47_code 21 = .ok (.bipush 8, 2)) (by decide) ?_
      refine g_callSI [.int u, .int (nI 0), .int (nI 8)] (by decide +kernel : decode prog_1_method_47_code 23 = .ok (.invokestatic 62, 3)) lk_LS_62 (k_within _ u 0 8) rfl rfl (Nat.le_of_ble_eq_true rfl) (Nat.le_of_ble_eq_true rfl) (fun r23 s23 h23 => ?_)
      rcases h23 with ⟨e23, ⟨rfl, n, ha23, hb23, rfl⟩ | ⟨rfl, n23⟩⟩
      · have e23 := e23.symm; subst e23
        refine g_if_neN (tgt := 31) (by decide +kernel : decode prog_1_method_47_code 26 = .ok (.ifCond .ne 5, 3)) (by decide) (by decide) (fun _ => ?_) (fun h => False.elim (by revert h; decide))
        refine g_iload_n (by decide +kernel : decode prog_1_method_47_code 31 = .ok (.iload_n 3, 1)) rfl ?_
        refine g_iload (by decide +kernel : decode prog_1_method_47_code 32 = .ok (.iload 4, 2)) rfl ?_
        refine g_iaddN (by decide +kernel : decode prog_1_method_47_code 34 = .ok (.iadd, 1)) ?_
        refine g_aload_n (by decide +kernel : decode prog_1_method_47_code 35 = .ok (.aload_n 0, 1)) rfl ?_
        refine g_getR (by decide +kernel : decode prog_1_method_47_code 36 = .ok (.getfield 20, 3)) fl_LS_20 rfl rfl ?_
        refine g_getI (by decide +kernel : decode prog_1_method_47_code 39 = .ok (.getfield 92, 3)) fl_LS_92.get rfl rfl ?_
        refine g_top (w := nI (nn f)) (h.n.n) ?_
        refine g_icmp_leN (tgt := 47) (by decide +kernel : decode prog_1_method_47_code 42 = .ok (.if_icmp .le 5, 3)) (by decide) (by omega) (by omega) (fun h42 => ?_) (fun h42 => ?_)
        · refine g_aload_n (by decide +kernel : decode prog_1_method_47_code 47 = .ok (.aload_n 0, 1)) rfl ?_
          refine g_getR (by decide +kernel : decode prog_1_method_47_code 48 = .ok (.getfield 44, 3)) fl_LS_44 rfl rfl ?_
          refine g_iload_n (by decide +kernel : decode prog_1_method_47_code 51 = .ok (.iload_n 1, 1)) rfl ?_
          refine g_callVI [.int (nI t)] (by decide +kernel : decode prog_1_method_47_code 52 = .ok (.invokevirtual 225, 3)) lk_LS_225 (c_isMissing _ (t := t) (by omega)) rfl rfl rfl rfl (Nat.le_of_ble_eq_true rfl) (Nat.le_of_ble_eq_true rfl) (fun r52 s52 h52 => ?_)
          rcases h52 with ⟨e52, ⟨rfl, q52⟩ | ⟨rfl, q52⟩⟩
          · have e52 := e52.symm; subst e52
            refine g_if_eqN (tgt := 61) (by decide +kernel : decode prog_1_method_47_code 55 = .ok (.ifCond .eq 6, 3)) (by decide) (by decide) (fun h => False.elim (by revert h; decide)) (fun _ => ?_)
            refine g_bipush (v := (-11)) (by decide +kernel : decode prog_1_method_47_code 58 = .ok (.bipush (-11), 2)) (by decide) ?_
            exact g_iret hR (by decide +kernel : decode prog_1_method_47_code 60 = .ok (.ireturn, 1)) rfl ⟨_, rfl, ⟨by simp only [mindsV, mdsC, rg_of ha1 hb1, pz_of h.i ho12, rg_of ha23 hb23, if_pos h42, neg8 ((h.s1 (t := t) (by omega)).symm.trans q52)], by simp only [mindsT, mdsC, rg_of ha1 hb1, pz_of h.i ho12, rg_of ha23 hb23, if_pos h42, neg8 ((h.s1 (t := t) (by omega)).symm.trans q52)]; exact h⟩⟩
          · have e52 := e52.symm; subst e52
            obtain ⟨sk, hsk, es⟩ := sh_sort h (t := t) (by omega) q52
            obtain ⟨sn, hsn, en⟩ := sh_size h (t := t) (by omega)
            have etn : tn (τ 9 t) = sn := by rw [en, tn_nI (by omega)]
            refine g_if_eqN (tgt := 61) (by decide +kernel : decode prog_1_method_47_code 55 = .ok (.ifCond .eq 6, 3)) (by decide) (by decide) (fun _ => ?_) (fun h => False.elim (by revert h; decide))
            refine g_aload_n (by decide +kernel : decode prog_1_method_47_code 61 = .ok (.aload_n 0, 1)) rfl ?_
            refine g_getR (by decide +kernel : decode prog_1_method_47_code 62 = .ok (.getfield 44, 3)) fl_LS_44 rfl rfl ?_
            refine g_getR (by decide +kernel : decode prog_1_method_47_code 65 = .ok (.getfield 262, 3)) fl_LS_262 rfl rfl ?_
            refine g_iload_n (by decide +kernel : decode prog_1_method_47_code 68 = .ok (.iload_n 1, 1)) rfl ?_
            refine g_iaload (a := t) (by decide +kernel : decode prog_1_method_47_code 69 = .ok (.iaload, 1)) rfl rfl (by omega) (by decide) ?_
            refine g_top (w := nI sk) ((h.s1 (t := t) (by omega)).trans es) ?_
            refine g_if_eqN (tgt := 76) (by decide +kernel : decode prog_1_method_47_code 70 = .ok (.ifCond .eq 6, 3)) (by decide) (by omega) (fun h70 => ?_) (fun h70 => ?_)
            · refine g_iload_n (by decide +kernel : decode prog_1_method_47_code 76 = .ok (.iload_n 2, 1)) rfl ?_
              refine g_iconst (v := nI 0) (by decide +kernel : decode prog_1_method_47_code 77 = .ok (.iconst 0, 1)) (by decide) ?_
              refine g_aload_n (by decide +kernel : decode prog_1_method_47_code 78 = .ok (.aload_n 0, 1)) rfl ?_
              refine g_getR (by decide +kernel : decode prog_1_method_47_code 79 = .ok (.getfield 44, 3)) fl_LS_44 rfl rfl ?_
              refine g_getR (by decide +kernel : decode prog_1_method_47_code 82 = .ok (.getfield 265, 3)) fl_LS_265 rfl rfl ?_
              refine g_iload_n (by decide +kernel : decode prog_1_method_47_code 85 = .ok (.iload_n 1, 1)) rfl ?_
              refine g_iaload (a := t) (by decide +kernel : decode prog_1_method_47_code 86 = .ok (.iaload, 1)) rfl rfl (by omega) (by decide) ?_
              refine g_top (w := nI sn) ((h.s2 (t := t) (by omega)).trans en) ?_
              refine g_callSI [.int y, .int (nI 0), .int (nI sn)] (by decide +kernel : decode prog_1_method_47_code 87 = .ok (.invokestatic 62, 3)) lk_LS_62 (k_within _ y 0 sn (by decide) (by omega)) rfl rfl (Nat.le_of_ble_eq_true rfl) (Nat.le_of_ble_eq_true rfl) (fun r87 s87 h87 => ?_)
              rcases h87 with ⟨e87, ⟨rfl, i, ha87, hb87, rfl⟩ | ⟨rfl, n87⟩⟩
              · have e87 := e87.symm; subst e87
                refine g_if_eqN (tgt := 109) (by decide +kernel : decode prog_1_method_47_code 90 = .ok (.ifCond .eq 19, 3)) (by decide) (by decide) (fun h => False.elim (by revert h; decide)) (fun _ => ?_)
                refine g_iload_n (by decide +kernel : decode prog_1_method_47_code 93 = .ok (.iload_n 2, 1)) rfl ?_
                refine g_iload (by decide +kernel : decode prog_1_method_47_code 94 = .ok (.iload 4, 2)) rfl ?_
                refine g_iaddN (by decide +kernel : decode prog_1_method_47_code 96 = .ok (.iadd, 1)) ?_
                refine g_aload_n (by decide +kernel : decode prog_1_method_47_code 97 = .ok (.aload_n 0, 1)) rfl ?_
                refine g_getR (by decide +kernel : decode prog_1_method_47_code 98 = .ok (.getfield 44, 3)) fl_LS_44 rfl rfl ?_
                refine g_getR (by decide +kernel : decode prog_1_method_47_code 101 = .ok (.getfield 265, 3)) fl_LS_265 rfl rfl ?_
                refine g_iload_n (by decide +kernel : decode prog_1_method_47_code 104 = .ok (.iload_n 1, 1)) rfl ?_
                refine g_iaload (a := t) (by decide +kernel : decode prog_1_method_47_code 105 = .ok (.iaload, 1)) rfl rfl (by omega) (by decide) ?_
                refine g_top (w := nI sn) ((h.s2 (t := t) (by omega)).trans en) ?_
                refine g_icmp_leN (tgt := 112) (by decide +kernel : decode prog_1_method_47_code 106 = .ok (.if_icmp .le 6, 3)) (by decide) (by omega) (by omega) (fun h106 => ?_) (fun h106 => ?_)
                · refine g_iconst (v := nI 0) (by decide +kernel : decode prog_1_method_47_code 112 = .ok (.iconst 0, 1)) (by decide) ?_
                  refine g_istore (L' := [some (.ref 0), some (.int (nI t)), some (.int (nI i)), some (.int (nI o)), some (.int (nI n)), some (.int (nI 0))]) (by decide +kernel : decode prog_1_method_47_code 113 = .ok (.istore 5, 2)) (Nat.le_of_ble_eq_true rfl) rfl ?_
                  have eC : mdsC τ f (nI t) (nI i) (nI o) (nI n) = .inr (t, o, n, i) := by simp only [mdsC, rg_of ha1 hb1, pz_of h.i ho12, rg_of ha23 hb23, if_pos h42, pos8 (by omega) es, etn, e8_pos es h70, rg_of ha87 hb87 (show sn < 2 ^ 31 by omega), if_pos h106]
                  have eV : mindsV τ f (nI t) (nI i) (nI o) (nI n) = nI n := by unfold mindsV; rw [eC]
                  have eT : mindsT τ f (nI t) (nI i) (nI o) (nI n) = (mdF f (τ 10) o (40 * t + i) n) := by unfold mindsT; rw [eC]
                  rw [eV, eT] at hR
                  exact k_minds_lp (by omega) en hsn (by omega) (by omega) (n + 1) 0 σ h (by omega) (by omega) hR
                · refine g_bipush (v := (-12)) (by decide +kernel : decode prog_1_method_47_code 109 = .ok (.bipush (-12), 2)) (by decide) ?_
                  exact g_iret hR (by decide +kernel : decode prog_1_method_47_code 111 = .ok (.ireturn, 1)) rfl ⟨_, rfl, ⟨by simp only [mindsV, mdsC, rg_of ha1 hb1, pz_of h.i ho12, rg_of ha23 hb23, if_pos h42, pos8 (by omega) es, etn, e8_pos es h70, rg_of ha87 hb87 (show sn < 2 ^ 31 by omega), if_neg h106], by simp only [mindsT, mdsC, rg_of ha1 hb1, pz_of h.i ho12, rg_of ha23 hb23, if_pos h42, pos8 (by omega) es, etn, e8_pos es h70, rg_of ha87 hb87 (show sn < 2 ^ 31 by omega), if_neg h106]; exact h⟩⟩
              · have e87 := e87.symm; subst e87
                refine g_if_eqN (tgt := 109) (by decide +kernel : decode prog_1_method_47_code 90 = .ok (.ifCond .eq 19, 3)) (by decide) (by decide) (fun _ => ?_) (fun h => False.elim (by revert h; decide))
                refine g_bipush (v := (-12)) (by decide +kernel : decode prog_1_method_47_code 109 = .ok (.bipush (-12), 2)) (by decide) ?_
                exact g_iret hR (by decide +kernel : decode prog_1_method_47_code 111 = .ok (.ireturn, 1)) rfl ⟨_, rfl, ⟨by simp only [mindsV, mdsC, rg_of ha1 hb1, pz_of h.i ho12, rg_of ha23 hb23, if_pos h42, pos8 (by omega) es, etn, e8_pos es h70, rg_none n87 (show sn < 2 ^ 31 by omega) (Nat.zero_le _)], by simp only [mindsT, mdsC, rg_of ha1 hb1, pz_of h.i ho12, rg_of ha23 hb23, if_pos h42, pos8 (by omega) es, etn, e8_pos es h70, rg_none n87 (show sn < 2 ^ 31 by omega) (Nat.zero_le _)]; exact h⟩⟩
            · refine g_bipush (v := (-13)) (by decide +kernel : decode prog_1_method_47_code 73 = .ok (.bipush (-13), 2)) (by decide) ?_
              exact g_iret hR (by decide +kernel : decode prog_1_method_47_code 75 = .ok (.ireturn, 1)) rfl ⟨_, rfl, ⟨by simp only [mindsV, mdsC, rg_of ha1 hb1, pz_of h.i ho12, rg_of ha23 hb23, if_pos h42, pos8 (by omega) es, etn, e8_neg hsk es h70], by simp only [mindsT, mdsC, rg_of ha1 hb1, pz_of h.i ho12, rg_of ha23 hb23, if_pos h42, pos8 (by omega) es, etn, e8_neg hsk es h70]; exact h⟩⟩
        · refine g_iconst (v := (-1)) (by decide +kernel : decode prog_1_method_47_code 45 = .ok (.iconst (-1), 1)) (by decide) ?_
          exact g_iret hR (by decide +kernel : decode prog_1_method_47_code 46 = .ok (.ireturn, 1)) rfl ⟨_, rfl, ⟨by simp only [mindsV, mdsC, rg_of ha1 hb1, pz_of h.i ho12, rg_of ha23 hb23, if_neg h42], by simp only [mindsT, mdsC, rg_of ha1 hb1, pz_of h.i ho12, rg_of ha23 hb23, if_neg h42]; exact h⟩⟩
      · have e23 := e23.symm; subst e23
        refine g_if_neN (tgt := 31) (by decide +kernel : decode prog_1_method_47_code 26 = .ok (.ifCond .ne 5, 3)) (by decide) (by decide) (fun h => False.elim (by revert h; decide)) (fun _ => ?_)
        refine g_iconst (v := (-1)) (by decide +kernel : decode prog_1_method_47_code 29 = .ok (.iconst (-1), 1)) (by decide) ?_
        exact g_iret hR (by decide +kernel : decode prog_1_method_47_code 30 = .ok (.ireturn, 1)) rfl ⟨_, rfl, ⟨by simp only [mindsV, mdsC, rg_of ha1 hb1, pz_of h.i ho12, rg_none n23], by simp only [mindsT, mdsC, rg_of ha1 hb1, pz_of h.i ho12, rg_none n23]; exact h⟩⟩
    · have e12 := e12.symm; subst e12
      refine g_if_eqN (tgt := 29) (by decide +kernel : decode prog_1_method_47_code 15 = .ok (.ifCond .eq 14, 3)) (by decide) (by decide) (fun _ => ?_) (fun h => False.elim (by revert h; decide))
      refine g_iconst (v := (-1)) (by decide +kernel : decode prog_1_method_47_code 29 = .ok (.iconst (-1), 1)) (by decide) ?_
      exact g_iret hR (by decide +kernel : decode prog_1_method_47_code 30 = .ok (.ireturn, 1)) rfl ⟨_, rfl, ⟨by simp only [mindsV, mdsC, rg_of ha1 hb1, pz_none h.i n12], by simp only [mindsT, mdsC, rg_of ha1 hb1, pz_none h.i n12]; exact h⟩⟩
  · have e1 := e1.symm; subst e1
    refine g_if_eqN (tgt := 29) (by decide +kernel : decode prog_1_method_47_code 4 = .ok (.ifCond .eq 25, 3)) (by decide) (by decide) (fun _ => ?_) (fun h => False.elim (by revert h; decide))
    refine g_iconst (v := (-1)) (by decide +kernel : decode prog_1_method_47_code 29 = .ok (.iconst (-1), 1)) (by decide) ?_
    exact g_iret hR (by decide +kernel : decode prog_1_method_47_code 30 = .ok (.ireturn, 1)) rfl ⟨_, rfl, ⟨by simp only [mindsV, mdsC, rg_none n1], by simp only [mindsT, mdsC, rg_none n1]; exact h⟩⟩
theorem i32_m1 (x : Int32) : ((-1 : Int32) ≤ x ∧ x ≤ nI 3) ↔ (x = -1 ∨ ∃ j, j ≤ 3 ∧ x = nI j) := by
  have hm2 : (-1 : Int32).toInt = -1 := by decide
  rw [Int32.le_iff_toInt_le, Int32.le_iff_toInt_le, hm2, nI_toInt (by decide)]
  constructor
  · rintro ⟨h1, h2⟩
    by_cases h : x.toInt = -1
    · left; apply Int32.toInt_inj.mp; rw [h, hm2]
    · right
      refine ⟨x.toInt.toNat, by omega, ?_⟩
      apply Int32.toInt_inj.mp
      rw [nI_toInt (by omega)]; omega
  · rintro (rfl | ⟨j, h1, rfl⟩)
    · rw [hm2]; omega
    · rw [nI_toInt (by omega)]; omega
theorem k_withinM (σ : Store) (x : Int32) : Ct ΛC mt_LS_within 0 [.int x, .int (-1), .int (nI 3)] σ (PB σ (x = -1 ∨ ∃ j, j ≤ 3 ∧ x = nI j)) := PB.of (k_within0 σ x (-1) (nI 3)) (i32_m1 x)
theorem m1_ne {j : Nat} (hj : j < 2 ^ 31) : ¬ (-1 : Int32) = nI j := fun q => nI_pos hj (q ▸ by decide)
theorem zr_in (R : Row) (t : Nat) : ∀ k i, i < k → zr R t k (40 * t + i) = nI 0 := by
  intro k
  induction k with
  | zero => intro i h; omega
  | succ k ih =>
    intro i h
    show upd (zr R t k) (40 * t + k) (nI 0) (40 * t + i) = nI 0
    by_cases e : i = k
    · subst e; exact upd_s
    · rw [upd_n (by omega)]; exact ih i (by omega)
theorem zr_out (R : Row) (t : Nat) : ∀ k j, k ≤ 40 → (j < 40 * t ∨ 40 * t + 40 ≤ j) → zr R t k j = R j := by
  intro k
  induction k with
  | zero => intro j _ _; rfl
  | succ k ih =>
    intro j hk hj
    show upd (zr R t k) (40 * t + k) (nI 0) j = R j
    rw [upd_n (by omega)]; exact ih j (by omega) hj
theorem RX.lay {σ σ' τ : Store} {f : Row} (h : RX σ τ f) {t n : Nat} {s : Int32} (ht : t < 4) (hn : n ≤ 40) (hs : s = -1 ∨ Rng s 3) (a1 : σ' 34 = upd (σ 34) t s) (a2 : σ' 35 = upd (σ 35) t (nI n)) (a3 : ∀ i, i < n → σ' 36 (40 * t + i) = nI 0) (a4 : ∀ j, (j < 40 * t ∨ 40 * t + 40 ≤ j) → σ' 36 j = σ 36 j) (a5 : ∀ c, c ≠ 34 → c ≠ 35 → c ≠ 36 → σ' c = σ c) : RX σ' (layS τ t s (nI n)) f := by
  have e : σ' = s_row (s_row (s_row σ 34 (σ' 34)) 35 (σ' 35)) 36 (σ' 36) := by
    funext c
    unfold s_row
    by_cases c1 : c = 36
    · subst c1; simp
    · by_cases c2 : c = 35
      · subst c2; simp
      · by_cases c3 : c = 34
        · subst c3; simp
        · simp only [c1, c2, c3, if_false]; exact a5 c c3 c2 c1
  have hS : RS (σ' 34) (σ' 35) (σ' 36) (layS τ t s (nI n)) := by
    refine ⟨fun t' ht' => ?_, fun t' ht' => ?_⟩
    · show (upd (τ 8) t s t' = -1 ∨ Rng (upd (τ 8) t s t') 3) ∧ Rng (upd (τ 9) t (nI n) t') 40
      by_cases e1 : t' = t
      · subst e1; rw [upd_s, upd_s]; exact ⟨hs, Rng.of hn⟩
      · rw [upd_n e1, upd_n e1]; exact h.s0 t' ht'
    · show σ' 34 t' = upd (τ 8) t s t' ∧ σ' 35 t' = upd (τ 9) t (nI n) t' ∧ ∀ i, i < tn (upd (τ 9) t (nI n) t') → σ' 36 (40 * t' + i) = zr (τ 10) t 40 (40 * t' + i)
      rw [a1, a2]
      by_cases e1 : t' = t
      · subst e1
        rw [upd_s, upd_s, upd_s, upd_s]
        refine ⟨rfl, rfl, fun i hi => ?_⟩
        rw [tn_nI (by omega)] at hi
        rw [a3 i hi, zr_in _ _ _ _ (by omega)]
      · rw [upd_n e1, upd_n e1, upd_n e1, upd_n e1]
        refine ⟨h.s1 ht', h.s2 ht', fun i hi => ?_⟩
        obtain ⟨m, hm, em⟩ := (h.s0 t' ht').2
        have hi2 : i < m := by rw [em, tn_nI (by omega)] at hi; exact hi
        rw [a4 _ (by omega), zr_out _ _ _ _ (by omega) (by omega)]
        exact h.s3 ht' em hm hi2
  have k : RX (s_row (s_row (s_row σ 34 (σ' 34)) 35 (σ' 35)) 36 (σ' 36)) (layS τ t s (nI n)) f := ⟨h.1, h.2.1, h.2.2.1, h.2.2.2.1, hS, h.2.2.2.2.2⟩
  rw [← e] at k
  exact k
theorem RX.rem {σ τ : Store} {f : Row} (h : RX σ τ f) {t : Nat} (ht : t < 4) : RX (s_up (s_up σ 34 t (-1)) 35 t (nI 0)) (layS τ t (-1) (nI 0)) f :=
  h.lay (n := 0) ht (by decide) (Or.inl rfl) rfl rfl (fun i hi => absurd hi (Nat.not_lt_zero _)) (fun j _ => rfl) (fun c c1 c2 c3 => by rw [s_up_n _ _ _ c2, s_up_n _ _ _ c1])
theorem sg_pos {s : Int32} (h : s = -1) {α : Type} {a b : α} : (if s < 0 then a else b) = a := if_pos (by rw [h]; decide)
theorem sg_neg {j : Nat} (h : j ≤ 3) {α : Type} {a b : α} : (if nI j < 0 then a else b) = b := if_neg (nI_pos (by omega))
theorem sz40 {z : Int32} (h0 : 0 ≤ z) (h : z ≤ nI 40) : ∃ n, n ≤ 40 ∧ z = nI n := by
  obtain ⟨j, _, h2, h3⟩ := (rg_iff (a := 0) (b := 40) z (by decide) (by decide)).mp ⟨h0, h⟩
  exact ⟨j, h2, h3⟩
set_option maxRecDepth 20000 in
theorem k_sheet {σ τ : Store} {f : Row} (h : RX σ τ f) (x y z : Int32) : Ct ΛC mt_LS_sheet 2 [.ref 0, .int x, .int y, .int z] σ (cP (sheetS τ x y z) (sheetV x y z) f) := by
  refine Ct.of (by decide) (Nat.le_of_ble_eq_true rfl) (fun X hR => ?_)
  show G (ΛC, mt_LS_sheet, 2) X σ [some (.ref 0), some (.int x), some (.int y), some (.int z)] [] 0
  have hn8 := h.n8
  refine g_iload_n (by decide +kernel : decode prog_1_method_48_code 0 = .ok (.iload_n 1, 1)) rfl ?_
  refine g_callSI [.int x] (by decide +kernel : decode prog_1_method_48_code 1 = .ok (.invokestatic 222, 3)) lk_LS_222 (k_isSheet _ x) rfl rfl (Nat.le_of_ble_eq_true rfl) (Nat.le_of_ble_eq_true rfl) (fun r1 s1 h1 => ?_)
  rcases h1 with ⟨e1, ⟨rfl, t, ha1, hb1, rfl⟩ | ⟨rfl, n1⟩⟩
  · have e1 := e1.symm; subst e1
    refine g_if_eqN (tgt := 16) (by decide +kernel : decode prog_1_method_48_code 4 = .ok (.ifCond .eq 12, 3)) (by decide) (by decide) (fun h => False.elim (by revert h; decide)) (fun _ => ?_)
    refine g_iload_n (by decide +kernel : decode prog_1_method_48_code 7 = .ok (.iload_n 2, 1)) rfl ?_
    refine g_iconst (v := (-1)) (by decide +kernel : decode prog_1_method_48_code 8 = .ok (.iconst (-1), 1)) (by decide) ?_
    refine g_iconst (v := nI 3) (by decide +kernel : decode prog_1_method_48_code 9 = .ok (.iconst 3, 1)) (by decide) ?_
    refine g_callSI [.int y, .int (-1), .int (nI 3)] (by decide +kernel : decode prog_1_method_48_code 10 = .ok (.invokestatic 62, 3)) lk_LS_62 (k_withinM _ y) rfl rfl (Nat.le_of_ble_eq_true rfl) (Nat.le_of_ble_eq_true rfl) (fun r10 s10 h10 => ?_)
    rcases h10 with ⟨e10, ⟨rfl, rfl | ⟨k, hk, rfl⟩⟩ | ⟨rfl, no⟩⟩
    · have e10 := e10.symm; subst e10
      refine g_if_neN (tgt := 18) (by decide +kernel : decode prog_1_method_48_code 13 = .ok (.ifCond .ne 5, 3)) (by decide) (by decide) (fun _ => ?_) (fun h => False.elim (by revert h; decide))
      refine g_iload_n (by decide +kernel : decode prog_1_method_48_code 18 = .ok (.iload_n 2, 1)) rfl ?_
      refine g_iconst (v := (-1)) (by decide +kernel : decode prog_1_method_48_code 19 = .ok (.iconst (-1), 1)) (by decide) ?_
      refine g_icmp_ne (tgt := 33) (by decide +kernel : decode prog_1_method_48_code 20 = .ok (.if_icmp .ne 13, 3)) (by decide) (fun h => False.elim (by revert h; decide)) (fun _ => ?_)
      refine g_aload_n (by decide +kernel : decode prog_1_method_48_code 23 = .ok (.aload_n 0, 1)) rfl ?_
      refine g_getR (by decide +kernel : decode prog_1_method_48_code 24 = .ok (.getfield 44, 3)) fl_LS_44 rfl rfl ?_
      refine g_iload_n (by decide +kernel : decode prog_1_method_48_code 27 = .ok (.iload_n 1, 1)) rfl ?_
      refine g_callVV [.int (nI t)] (by decide +kernel : decode prog_1_method_48_code 28 = .ok (.invokevirtual 273, 3)) lk_LS_273 (c_remove _ (t := t) (by omega)) rfl rfl rfl rfl (Nat.le_of_ble_eq_true rfl) (Nat.le_of_ble_eq_true rfl) (fun s28 h28 => ?_)
      obtain rfl := h28
      refine g_iconst (v := nI 1) (by decide +kernel : decode prog_1_method_48_code 31 = .ok (.iconst 1, 1)) (by decide) ?_
      exact g_iret hR (by decide +kernel : decode prog_1_method_48_code 32 = .ok (.ireturn, 1)) rfl ⟨_, rfl, ⟨by simp only [sheetV, rg_of ha1 hb1, isSort_m, sg_pos rfl], by simp only [sheetS, rg_of ha1 hb1, isSort_m, sg_pos rfl]; exact (h.rem (t := t) (by omega))⟩⟩
    · have e10 := e10.symm; subst e10
      refine g_if_neN (tgt := 18) (by decide +kernel : decode prog_1_method_48_code 13 = .ok (.ifCond .ne 5, 3)) (by decide) (by decide) (fun _ => ?_) (fun h => False.elim (by revert h; decide))
      refine g_iload_n (by decide +kernel : decode prog_1_method_48_code 18 = .ok (.iload_n 2, 1)) rfl ?_
      refine g_iconst (v := (-1)) (by decide +kernel : decode prog_1_method_48_code 19 = .ok (.iconst (-1), 1)) (by decide) ?_
      refine g_icmp_ne (tgt := 33) (by decide +kernel : decode prog_1_method_48_code 20 = .ok (.if_icmp .ne 13, 3)) (by decide) (fun _ => ?_) (fun q => absurd q.symm (m1_ne (by omega)))
      refine g_iload_n (by decide +kernel : decode prog_1_method_48_code 33 = .ok (.iload_n 3, 1)) rfl ?_
      refine g_bipush (v := nI 40) (by decide +kernel : decode prog_1_method_48_code 34 = .ok (.bipush 40, 2)) (by decide) ?_
      refine g_icmp_le (tgt := 41) (by decide +kernel : decode prog_1_method_48_code 36 = .ok (.if_icmp .le 5, 3)) (by decide) (fun h36 => ?_) (fun h36 => ?_)
      · refine g_iload_n (by decide +kernel : decode prog_1_method_48_code 41 = .ok (.iload_n 3, 1)) rfl ?_
        refine g_if_ge (tgt := 48) (by decide +kernel : decode prog_1_method_48_code 42 = .ok (.ifCond .ge 6, 3)) (by decide) (fun h42 => ?_) (fun h42 => ?_)
        · obtain ⟨n, hn, rfl⟩ : ∃ n, n ≤ 40 ∧ z = nI n := sz40 h42 h36
          refine g_aload_n (by decide +kernel : decode prog_1_method_48_code 48 = .ok (.aload_n 0, 1)) rfl ?_
          refine g_getR (by decide +kernel : decode prog_1_method_48_code 49 = .ok (.getfield 44, 3)) fl_LS_44 rfl rfl ?_
          refine g_iload_n (by decide +kernel : decode prog_1_method_48_code 52 = .ok (.iload_n 1, 1)) rfl ?_
          refine g_iload_n (by decide +kernel : decode prog_1_method_48_code 53 = .ok (.iload_n 2, 1)) rfl ?_
          refine g_iload_n (by decide +kernel : decode prog_1_method_48_code 54 = .ok (.iload_n 3, 1)) rfl ?_
          refine g_callVV [.int (nI t), .int (nI k), .int (nI n)] (by decide +kernel : decode prog_1_method_48_code 55 = .ok (.invokevirtual 276, 3)) lk_LS_276 (c_lay _ (t := t) (n := n) (nI k) (by omega) hn) rfl rfl rfl rfl (Nat.le_of_ble_eq_true rfl) (Nat.le_of_ble_eq_true rfl) (fun s55 h55 => ?_)
          obtain ⟨l1, l2, l3, l4, l5⟩ := h55
          refine g_iconst (v := nI 1) (by decide +kernel : decode prog_1_method_48_code 58 = .ok (.iconst 1, 1)) (by decide) ?_
          exact g_iret hR (by decide +kernel : decode prog_1_method_48_code 59 = .ok (.ireturn, 1)) rfl ⟨_, rfl, ⟨by simp only [sheetV, rg_of ha1 hb1, isSort_n hk, if_pos h36, if_pos h42, sg_neg hk], by simp only [sheetS, rg_of ha1 hb1, isSort_n hk, if_pos h36, if_pos h42, sg_neg hk]; exact (h.lay (by omega) hn (Or.inr (Rng.of hk)) l1 l2 l3 l4 l5)⟩⟩
        · refine g_bipush (v := (-14)) (by decide +kernel : decode prog_1_method_48_code 45 = .ok (.bipush (-14), 2)) (by decide) ?_
          exact g_iret hR (by decide +kernel : decode prog_1_method_48_code 47 = .ok (.ireturn, 1)) rfl ⟨_, rfl, ⟨by simp only [sheetV, rg_of ha1 hb1, isSort_n hk, if_pos h36, if_neg h42, sg_neg hk], by simp only [sheetS, rg_of ha1 hb1, isSort_n hk, if_pos h36, if_neg h42, sg_neg hk]; exact h⟩⟩
      · refine g_iconst (v := (-1)) (by decide +kernel : decode prog_1_method_48_code 39 = .ok (.iconst (-1), 1)) (by decide) ?_
        exact g_iret hR (by decide +kernel : decode prog_1_method_48_code 40 = .ok (.ireturn, 1)) rfl ⟨_, rfl, ⟨by simp only [sheetV, rg_of ha1 hb1, isSort_n hk, if_neg h36, sg_neg hk], by simp only [sheetS, rg_of ha1 hb1, isSort_n hk, if_neg h36, sg_neg hk]; exact h⟩⟩
    · have e10 := e10.symm; subst e10
      refine g_if_neN (tgt := 18) (by decide +kernel : decode prog_1_method_48_code 13 = .ok (.ifCond .ne 5, 3)) (by decide) (by decide) (fun h => False.elim (by revert h; decide)) (fun _ => ?_)
      refine g_iconst (v := (-1)) (by decide +kernel : decode prog_1_method_48_code 16 = .ok (.iconst (-1), 1)) (by decide) ?_
      exact g_iret hR (by decide +kernel : decode prog_1_method_48_code 17 = .ok (.ireturn, 1)) rfl ⟨_, rfl, ⟨by simp only [sheetV, rg_of ha1 hb1, isSort_none no], by simp only [sheetS, rg_of ha1 hb1, isSort_none no]; exact h⟩⟩
  · have e1 := e1.symm; subst e1
    refine g_if_eqN (tgt := 16) (by decide +kernel : decode prog_1_method_48_code 4 = .ok (.ifCond .eq 12, 3)) (by decide) (by decide) (fun _ => ?_) (fun h => False.elim (by revert h; decide))
    refine g_iconst (v := (-1)) (by decide +kernel : decode prog_1_method_48_code 16 = .ok (.iconst (-1), 1)) (by decide) ?_
    exact g_iret hR (by decide +kernel : decode prog_1_method_48_code 17 = .ok (.ireturn, 1)) rfl ⟨_, rfl, ⟨by simp only [sheetV, rg_none n1], by simp only [sheetS, rg_none n1]; exact h⟩⟩
theorem RX.wit {σ τ : Store} {f : Row} (h : RX σ τ f) (q : Nat) (v : Int32) : RX (s_up σ 36 q v) (s_up τ 10 q v) f := by
  refine ⟨h.1, h.2.1, h.2.2.1, h.2.2.2.1, ⟨h.s0, fun t ht => ⟨h.s1 ht, h.s2 ht, fun i hi => ?_⟩⟩, h.2.2.2.2.2⟩
  obtain ⟨m, hm, em⟩ := (h.s0 t ht).2
  have hi1 : i < tn (τ 9 t) := hi
  have hi2 : i < m := by rw [em, tn_nI (by omega)] at hi1; exact hi1
  have := h.s3 ht em hm hi2
  show upd (σ 36) q v (40 * t + i) = upd (τ 10) q v (40 * t + i)
  simp only [upd, this]
set_option maxRecDepth 20000 in
theorem k_put {σ τ : Store} {f : Row} (h : RX σ τ f) (x y z : Int32) : Ct ΛC mt_LS_put 2 [.ref 0, .int x, .int y, .int z] σ (cP (putS τ x y z) (putV τ x y) f) := by
  refine Ct.of (by decide) (Nat.le_of_ble_eq_true rfl) (fun X hR => ?_)
  show G (ΛC, mt_LS_put, 2) X σ [some (.ref 0), some (.int x), some (.int y), some (.int z)] [] 0
  have hn8 := h.n8
  refine g_iload_n (by decide +kernel : decode prog_1_method_49_code 0 = .ok (.iload_n 1, 1)) rfl ?_
  refine g_callSI [.int x] (by decide +kernel : decode prog_1_method_49_code 1 = .ok (.invokestatic 222, 3)) lk_LS_222 (k_isSheet _ x) rfl rfl (Nat.le_of_ble_eq_true rfl) (Nat.le_of_ble_eq_true rfl) (fun r1 s1 h1 => ?_)
  rcases h1 with ⟨e1, ⟨rfl, t, ha1, hb1, rfl⟩ | ⟨rfl, n1⟩⟩
  · have e1 := e1.symm; subst e1
    refine g_if_neN (tgt := 9) (by decide +kernel : decode prog_1_method_49_code 4 = .ok (.ifCond .ne 5, 3)) (by decide) (by decide) (fun _ => ?_) (fun h => False.elim (by revert h; decide))
    refine g_aload_n (by decide +kernel : decode prog_1_method_49_code 9 = .ok (.aload_n 0, 1)) rfl ?_
    refine g_getR (by decide +kernel : decode prog_1_method_49_code 10 = .ok (.getfield 44, 3)) fl_LS_44 rfl rfl ?_
    refine g_iload_n (by decide +kernel : decode prog_1_method_49_code 13 = .ok (.iload_n 1, 1)) rfl ?_
    refine g_callVI [.int (nI t)] (by decide +kernel : decode prog_1_method_49_code 14 = .ok (.invokevirtual 225, 3)) lk_LS_225 (c_isMissing _ (t := t) (by omega)) rfl rfl rfl rfl (Nat.le_of_ble_eq_true rfl) (Nat.le_of_ble_eq_true rfl) (fun r14 s14 h14 => ?_)
    rcases h14 with ⟨e14, ⟨rfl, q14⟩ | ⟨rfl, q14⟩⟩
    · have e14 := e14.symm; subst e14
      refine g_if_eqN (tgt := 23) (by decide +kernel : decode prog_1_method_49_code 17 = .ok (.ifCond .eq 6, 3)) (by decide) (by decide) (fun h => False.elim (by revert h; decide)) (fun _ => ?_)
      refine g_bipush (v := (-11)) (by decide +kernel : decode prog_1_method_49_code 20 = .ok (.bipush (-11), 2)) (by decide) ?_
      exact g_iret hR (by decide +kernel : decode prog_1_method_49_code 22 = .ok (.ireturn, 1)) rfl ⟨_, rfl, ⟨by simp only [putV, rg_of ha1 hb1, neg8 ((h.s1 (t := t) (by omega)).symm.trans q14)], by simp only [putS, rg_of ha1 hb1, neg8 ((h.s1 (t := t) (by omega)).symm.trans q14)]; exact h⟩⟩
    · have e14 := e14.symm; subst e14
      obtain ⟨sk, hsk, es⟩ := sh_sort h (t := t) (by omega) q14
      obtain ⟨sn, hsn, en⟩ := sh_size h (t := t) (by omega)
      have etn : tn (τ 9 t) = sn := by rw [en, tn_nI (by omega)]
      refine g_if_eqN (tgt := 23) (by decide +kernel : decode prog_1_method_49_code 17 = .ok (.ifCond .eq 6, 3)) (by decide) (by decide) (fun _ => ?_) (fun h => False.elim (by revert h; decide))
      refine g_aload_n (by decide +kernel : decode prog_1_method_49_code 23 = .ok (.aload_n 0, 1)) rfl ?_
      refine g_getR (by decide +kernel : decode prog_1_method_49_code 24 = .ok (.getfield 44, 3)) fl_LS_44 rfl rfl ?_
      refine g_iload_n (by decide +kernel : decode prog_1_method_49_code 27 = .ok (.iload_n 1, 1)) rfl ?_
      refine g_iload_n (by decide +kernel : decode prog_1_method_49_code 28 = .ok (.iload_n 2, 1)) rfl ?_
      refine g_callVI [.int (nI t), .int y] (by decide +kernel : decode prog_1_method_49_code 29 = .ok (.invokevirtual 280, 3)) lk_LS_280 (c_hasItem _ (t := t) (n := sn) (by omega) y ((h.s2 (t := t) (by omega)).trans en) hsn) rfl rfl rfl rfl (Nat.le_of_ble_eq_true rfl) (Nat.le_of_ble_eq_true rfl) (fun r29 s29 h29 => ?_)
      rcases h29 with ⟨e29, ⟨rfl, i, hi, rfl⟩ | ⟨rfl, no⟩⟩
      · have e29 := e29.symm; subst e29
        refine g_if_neN (tgt := 38) (by decide +kernel : decode prog_1_method_49_code 32 = .ok (.ifCond .ne 6, 3)) (by decide) (by decide) (fun _ => ?_) (fun h => False.elim (by revert h; decide))
        refine g_aload_n (by decide +kernel : decode prog_1_method_49_code 38 = .ok (.aload_n 0, 1)) rfl ?_
        refine g_getR (by decide +kernel : decode prog_1_method_49_code 39 = .ok (.getfield 44, 3)) fl_LS_44 rfl rfl ?_
        refine g_iload_n (by decide +kernel : decode prog_1_method_49_code 42 = .ok (.iload_n 1, 1)) rfl ?_
        refine g_iload_n (by decide +kernel : decode prog_1_method_49_code 43 = .ok (.iload_n 2, 1)) rfl ?_
        refine g_iload_n (by decide +kernel : decode prog_1_method_49_code 44 = .ok (.iload_n 3, 1)) rfl ?_
        refine g_callVV [.int (nI t), .int (nI i), .int z] (by decide +kernel : decode prog_1_method_49_code 45 = .ok (.invokevirtual 283, 3)) lk_LS_283 (c_write _ (t := t) (i := i) (k := sk) (by omega) (by omega) z ((h.s1 (t := t) (by omega)).trans es) hsk) rfl rfl rfl rfl (Nat.le_of_ble_eq_true rfl) (Nat.le_of_ble_eq_true rfl) (fun s45 h45 => ?_)
        obtain rfl := h45
        refine g_iconst (v := nI 1) (by decide +kernel : decode prog_1_method_49_code 48 = .ok (.iconst 1, 1)) (by decide) ?_
        exact g_iret hR (by decide +kernel : decode prog_1_method_49_code 49 = .ok (.ireturn, 1)) rfl ⟨_, rfl, ⟨by simp only [putV, rg_of ha1 hb1, pos8 (by omega) es, etn, ri_of (show sn < 2 ^ 31 by omega) hi], by simp only [putS, rg_of ha1 hb1, pos8 (by omega) es, etn, ri_of (show sn < 2 ^ 31 by omega) hi]; rw [es]; exact (h.wit _ _)⟩⟩
      · have e29 := e29.symm; subst e29
        refine g_if_neN (tgt := 38) (by decide +kernel : decode prog_1_method_49_code 32 = .ok (.ifCond .ne 6, 3)) (by decide) (by decide) (fun h => False.elim (by revert h; decide)) (fun _ => ?_)
        refine g_bipush (v := (-12)) (by decide +kernel : decode prog_1_method_49_code 35 = .ok (.bipush (-12), 2)) (by decide) ?_
        exact g_iret hR (by decide +kernel : decode prog_1_method_49_code 37 = .ok (.ireturn, 1)) rfl ⟨_, rfl, ⟨by simp only [putV, rg_of ha1 hb1, pos8 (by omega) es, etn, ri_none (show sn < 2 ^ 31 by omega) no], by simp only [putS, rg_of ha1 hb1, pos8 (by omega) es, etn, ri_none (show sn < 2 ^ 31 by omega) no]; exact h⟩⟩
  · have e1 := e1.symm; subst e1
    refine g_if_neN (tgt := 9) (by decide +kernel : decode prog_1_method_49_code 4 = .ok (.ifCond .ne 5, 3)) (by decide) (by decide) (fun h => False.elim (by revert h; decide)) (fun _ => ?_)
    refine g_iconst (v := (-1)) (by decide +kernel : decode prog_1_method_49_code 7 = .ok (.iconst (-1), 1)) (by decide) ?_
    exact g_iret hR (by decide +kernel : decode prog_1_method_49_code 8 = .ok (.ireturn, 1)) rfl ⟨_, rfl, ⟨by simp only [putV, rg_none n1], by simp only [putS, rg_none n1]; exact h⟩⟩
theorem ss_pos {x : Int32} {s w : Nat} (es : x = nI s) (h : s = w) {α : Type} {a b : α} : (if x = nI w then a else b) = a := if_pos (by rw [es, h])
theorem ss_neg {x : Int32} {s w : Nat} (hs : s ≤ 3) (hw : w ≤ 3) (es : x = nI s) (h : ¬ s = w) {α : Type} {a b : α} : (if x = nI w then a else b) = b := if_neg (fun q => h ((nI_eq (by omega) (by omega)).mp (es.symm.trans q)))
set_option maxRecDepth 20000 in
theorem k_item {σ τ : Store} {f : Row} (h : RX σ τ f) (x y z : Int32) : Ct ΛC mt_LS_item 2 [.ref 0, .int x, .int y, .int z] σ (cP τ (itemV τ x y z) f) := by
  refine Ct.of (by decide) (Nat.le_of_ble_eq_true rfl) (fun X hR => ?_)
  show G (ΛC, mt_LS_item, 2) X σ [some (.ref 0), some (.int x), some (.int y), some (.int z)] [] 0
  have hn8 := h.n8
  refine g_iload_n (by decide +kernel : decode prog_1_method_50_code 0 = .ok (.iload_n 1, 1)) rfl ?_
  refine g_callSI [.int x] (by decide +kernel : decode prog_1_method_50_code 1 = .ok (.invokestatic 222, 3)) lk_LS_222 (k_isSheet _ x) rfl rfl (Nat.le_of_ble_eq_true rfl) (Nat.le_of_ble_eq_true rfl) (fun r1 s1 h1 => ?_)
  rcases h1 with ⟨e1, ⟨rfl, t, ha1, hb1, rfl⟩ | ⟨rfl, n1⟩⟩
  · have e1 := e1.symm; subst e1
    refine g_if_eqN (tgt := 16) (by decide +kernel : decode prog_1_method_50_code 4 = .ok (.ifCond .eq 12, 3)) (by decide) (by decide) (fun h => False.elim (by revert h; decide)) (fun _ => ?_)
    refine g_iload_n (by decide +kernel : decode prog_1_method_50_code 7 = .ok (.iload_n 2, 1)) rfl ?_
    refine g_iconst (v := nI 0) (by decide +kernel : decode prog_1_method_50_code 8 = .ok (.iconst 0, 1)) (by decide) ?_
    refine g_iconst (v := nI 3) (by decide +kernel : decode prog_1_method_50_code 9 = .ok (.iconst 3, 1)) (by decide) ?_
    refine g_callSI [.int y, .int (nI 0), .int (nI 3)] (by decide +kernel : decode prog_1_method_50_code 10 = .ok (.invokestatic 62, 3)) lk_LS_62 (k_within _ y 0 3) rfl rfl (Nat.le_of_ble_eq_true rfl) (Nat.le_of_ble_eq_true rfl) (fun r10 s10 h10 => ?_)
    rcases h10 with ⟨e10, ⟨rfl, w, ha10, hb10, rfl⟩ | ⟨rfl, n10⟩⟩
    · have e10 := e10.symm; subst e10
      refine g_if_neN (tgt := 18) (by decide +kernel : decode prog_1_method_50_code 13 = .ok (.ifCond .ne 5, 3)) (by decide) (by decide) (fun _ => ?_) (fun h => False.elim (by revert h; decide))
      refine g_aload_n (by decide +kernel : decode prog_1_method_50_code 18 = .ok (.aload_n 0, 1)) rfl ?_
      refine g_getR (by decide +kernel : decode prog_1_method_50_code 19 = .ok (.getfield 44, 3)) fl_LS_44 rfl rfl ?_
      refine g_iload_n (by decide +kernel : decode prog_1_method_50_code 22 = .ok (.iload_n 1, 1)) rfl ?_
      refine g_callVI [.int (nI t)] (by decide +kernel : decode prog_1_method_50_code 23 = .ok (.invokevirtual 225, 3)) lk_LS_225 (c_isMissing _ (t := t) (by omega)) rfl rfl rfl rfl (Nat.le_of_ble_eq_true rfl) (Nat.le_of_ble_eq_true rfl) (fun r23 s23 h23 => ?_)
      rcases h23 with ⟨e23, ⟨rfl, q23⟩ | ⟨rfl, q23⟩⟩
      · have e23 := e23.symm; subst e23
        refine g_if_eqN (tgt := 32) (by decide +kernel : decode prog_1_method_50_code 26 = .ok (.ifCond .eq 6, 3)) (by decide) (by decide) (fun h => False.elim (by revert h; decide)) (fun _ => ?_)
        refine g_bipush (v := (-11)) (by decide +kernel : decode prog_1_method_50_code 29 = .ok (.bipush (-11), 2)) (by decide) ?_
        exact g_iret hR (by decide +kernel : decode prog_1_method_50_code 31 = .ok (.ireturn, 1)) rfl ⟨_, rfl, ⟨by first | (simp only [itemV, rg_of ha1 hb1, rg_of ha10 hb10, neg8 ((h.s1 (t := t) (by omega)).symm.trans q23)]; done) | (simp only [itemV, rg_of ha1 hb1, rg_of ha10 hb10, neg8 ((h.s1 (t := t) (by omega)).symm.trans q23)]; rfl), h⟩⟩
      · have e23 := e23.symm; subst e23
        obtain ⟨sk, hsk, es⟩ := sh_sort h (t := t) (by omega) q23
        obtain ⟨sn, hsn, en⟩ := sh_size h (t := t) (by omega)
        have etn : tn (τ 9 t) = sn := by rw [en, tn_nI (by omega)]
        refine g_if_eqN (tgt := 32) (by decide +kernel : decode prog_1_method_50_code 26 = .ok (.ifCond .eq 6, 3)) (by decide) (by decide) (fun _ => ?_) (fun h => False.elim (by revert h; decide))
        refine g_aload_n (by decide +kernel : decode prog_1_method_50_code 32 = .ok (.aload_n 0, 1)) rfl ?_
        refine g_getR (by decide +kernel : decode prog_1_method_50_code 33 = .ok (.getfield 44, 3)) fl_LS_44 rfl rfl ?_
        refine g_getR (by decide +kernel : decode prog_1_method_50_code 36 = .ok (.getfield 262, 3)) fl_LS_262 rfl rfl ?_
        refine g_iload_n (by decide +kernel : decode prog_1_method_50_code 39 = .ok (.iload_n 1, 1)) rfl ?_
        refine g_iaload (a := t) (by decide +kernel : decode prog_1_method_50_code 40 = .ok (.iaload, 1)) rfl rfl (by omega) (by decide) ?_
        refine g_top (w := nI sk) ((h.s1 (t := t) (by omega)).trans es) ?_
        refine g_iload_n (by decide +kernel : decode prog_1_method_50_code 41 = .ok (.iload_n 2, 1)) rfl ?_
        refine g_icmp_eqN (tgt := 48) (by decide +kernel : decode prog_1_method_50_code 42 = .ok (.if_icmp .eq 6, 3)) (by decide) (by omega) (by omega) (fun h42 => ?_) (fun h42 => ?_)
        · refine g_aload_n (by decide +kernel : decode prog_1_method_50_code 48 = .ok (.aload_n 0, 1)) rfl ?_
          refine g_getR (by decide +kernel : decode prog_1_method_50_code 49 = .ok (.getfield 44, 3)) fl_LS_44 rfl rfl ?_
          refine g_iload_n (by decide +kernel : decode prog_1_method_50_code 52 = .ok (.iload_n 1, 1)) rfl ?_
          refine g_iload_n (by decide +kernel : decode prog_1_method_50_code 53 = .ok (.iload_n 3, 1)) rfl ?_
          refine g_callVI [.int (nI t), .int z] (by decide +kernel : decode prog_1_method_50_code 54 = .ok (.invokevirtual 280, 3)) lk_LS_280 (c_hasItem _ (t := t) (n := sn) (by omega) z ((h.s2 (t := t) (by omega)).trans en) hsn) rfl rfl rfl rfl (Nat.le_of_ble_eq_true rfl) (Nat.le_of_ble_eq_true rfl) (fun r54 s54 h54 => ?_)
          rcases h54 with ⟨e54, ⟨rfl, i, hi, rfl⟩ | ⟨rfl, no⟩⟩
          · have e54 := e54.symm; subst e54
            refine g_if_eqN (tgt := 72) (by decide +kernel : decode prog_1_method_50_code 57 = .ok (.ifCond .eq 15, 3)) (by decide) (by decide) (fun h => False.elim (by revert h; decide)) (fun _ => ?_)
            refine g_aload_n (by decide +kernel : decode prog_1_method_50_code 60 = .ok (.aload_n 0, 1)) rfl ?_
            refine g_getR (by decide +kernel : decode prog_1_method_50_code 61 = .ok (.getfield 44, 3)) fl_LS_44 rfl rfl ?_
            refine g_iload_n (by decide +kernel : decode prog_1_method_50_code 64 = .ok (.iload_n 1, 1)) rfl ?_
            refine g_iload_n (by decide +kernel : decode prog_1_method_50_code 65 = .ok (.iload_n 3, 1)) rfl ?_
            refine g_callVI [.int (nI t), .int (nI i)] (by decide +kernel : decode prog_1_method_50_code 66 = .ok (.invokevirtual 267, 3)) lk_LS_267 (c_read _ (t := t) (i := i) (by omega) (by omega)) rfl rfl rfl rfl (Nat.le_of_ble_eq_true rfl) (Nat.le_of_ble_eq_true rfl) (fun r66 s66 h66 => ?_)
            obtain ⟨rfl, e66⟩ := h66
            have e66 := e66.symm; subst e66
            refine g_top (w := τ 10 (40 * t + i)) (h.s3 (t := t) (i := i) (by omega) en hsn hi) ?_
            refine g_goto (tgt := 74) (by decide +kernel : decode prog_1_method_50_code 69 = .ok (.goto 5, 3)) (by decide) ?_
            exact g_iret hR (by decide +kernel : decode prog_1_method_50_code 74 = .ok (.ireturn, 1)) rfl ⟨_, rfl, ⟨by first | (simp only [itemV, rg_of ha1 hb1, rg_of ha10 hb10, pos8 (by omega) es, etn, ss_pos es h42, ri_of (show sn < 2 ^ 31 by omega) hi]; done) | (simp only [itemV, rg_of ha1 hb1, rg_of ha10 hb10, pos8 (by omega) es, etn, ss_pos es h42, ri_of (show sn < 2 ^ 31 by omega) hi]; rfl), h⟩⟩
          · have e54 := e54.symm; subst e54
            refine g_if_eqN (tgt := 72) (by decide +kernel : decode prog_1_method_50_code 57 = .ok (.ifCond .eq 15, 3)) (by decide) (by decide) (fun _ => ?_) (fun h => False.elim (by revert h; decide))
            refine g_bipush (v := (-12)) (by decide +kernel : decode prog_1_method_50_code 72 = .ok (.bipush (-12), 2)) (by decide) ?_
            exact g_iret hR (by decide +kernel : decode prog_1_method_50_code 74 = .ok (.ireturn, 1)) rfl ⟨_, rfl, ⟨by first | (simp only [itemV, rg_of ha1 hb1, rg_of ha10 hb10, pos8 (by omega) es, etn, ss_pos es h42, ri_none (show sn < 2 ^ 31 by omega) no]; done) | (simp only [itemV, rg_of ha1 hb1, rg_of ha10 hb10, pos8 (by omega) es, etn, ss_pos es h42, ri_none (show sn < 2 ^ 31 by omega) no]; rfl), h⟩⟩
        · refine g_bipush (v := (-13)) (by decide +kernel : decode prog_1_method_50_code 45 = .ok (.bipush (-13), 2)) (by decide) ?_
          exact g_iret hR (by decide +kernel : decode prog_1_method_50_code 47 = .ok (.ireturn, 1)) rfl ⟨_, rfl, ⟨by first | (simp only [itemV, rg_of ha1 hb1, rg_of ha10 hb10, pos8 (by omega) es, etn, ss_neg hsk (by omega) es h42]; done) | (simp only [itemV, rg_of ha1 hb1, rg_of ha10 hb10, pos8 (by omega) es, etn, ss_neg hsk (by omega) es h42]; rfl), h⟩⟩
    · have e10 := e10.symm; subst e10
      refine g_if_neN (tgt := 18) (by decide +kernel : decode prog_1_method_50_code 13 = .ok (.ifCond .ne 5, 3)) (by decide) (by decide) (fun h => False.elim (by revert h; decide)) (fun _ => ?_)
      refine g_iconst (v := (-1)) (by decide +kernel : decode prog_1_method_50_code 16 = .ok (.iconst (-1), 1)) (by decide) ?_
      exact g_iret hR (by decide +kernel : decode prog_1_method_50_code 17 = .ok (.ireturn, 1)) rfl ⟨_, rfl, ⟨by first | (simp only [itemV, rg_of ha1 hb1, rg_none n10]; done) | (simp only [itemV, rg_of ha1 hb1, rg_none n10]; rfl), h⟩⟩
  · have e1 := e1.symm; subst e1
    refine g_if_eqN (tgt := 16) (by decide +kernel : decode prog_1_method_50_code 4 = .ok (.ifCond .eq 12, 3)) (by decide) (by decide) (fun _ => ?_) (fun h => False.elim (by revert h; decide))
    refine g_iconst (v := (-1)) (by decide +kernel : decode prog_1_method_50_code 16 = .ok (.iconst (-1), 1)) (by decide) ?_
    exact g_iret hR (by decide +kernel : decode prog_1_method_50_code 17 = .ok (.ireturn, 1)) rfl ⟨_, rfl, ⟨by first | (simp only [itemV, rg_none n1]; done) | (simp only [itemV, rg_none n1]; rfl), h⟩⟩
theorem RHs.cg {i : Nat} {u v w u' v' w' : Row} {τ τ' : Store} (h : RHs i u v w τ) (e1 : u' i = u i) (e2 : v' i = v i) (e3 : w' i = w i) (e4 : τ' 11 i = τ 11 i) (e5 : τ' 12 i = τ 12 i) (e6 : τ' 13 i = τ 13 i) : RHs i u' v' w' τ' := by
  unfold RHs
  rw [e1, e2, e3, e4, e5, e6]
  exact h
theorem RX.h0 {σ τ : Store} {f : Row} (h : RX σ τ f) {t : Nat} (ht : t < 4)  : RX (s_up (s_up (s_up σ 38 t (-1)) 39 t (-1)) 40 t (nI 0)) (setSh τ t (nI 0) (nI 0) (nI 0)) f := by
  refine ⟨h.1, h.2.1, h.2.2.1, h.2.2.2.1, h.2.2.2.2.1, fun i hi => ?_, h.2.2.2.2.2.2⟩
  by_cases e : i = t
  · subst e
    exact Or.inl ⟨upd_s (f := τ 11), upd_s (f := σ 38), upd_s (f := σ 39)⟩
  · refine (h.2.2.2.2.2.1 i hi).cg ?_ ?_ ?_ ?_ ?_ ?_
    all_goals (simp [s_up, setSh, upd, e])
theorem RX.h1 {σ τ : Store} {f : Row} (h : RX σ τ f) {t : Nat} (ht : t < 4) {j : Nat} (hj : j < 8) : RX (s_up (s_up (s_up (s_up σ 38 t (-1)) 39 t (-1)) 40 t (nI 0)) 38 t (nI j)) (setSh τ t (nI 1) (nI j) (nI 0)) f := by
  refine ⟨h.1, h.2.1, h.2.2.1, h.2.2.2.1, h.2.2.2.2.1, fun i hi => ?_, h.2.2.2.2.2.2⟩
  by_cases e : i = t
  · subst e
    exact Or.inr (Or.inl ⟨upd_s (f := τ 11), upd_s (f := σ 39), j, hj, upd_s (f := τ 12), upd_s (f := upd (σ 38) i (-1))⟩)
  · refine (h.2.2.2.2.2.1 i hi).cg ?_ ?_ ?_ ?_ ?_ ?_
    all_goals (simp [s_up, setSh, upd, e])
theorem RX.h2 {σ τ : Store} {f : Row} (h : RX σ τ f) {t : Nat} (ht : t < 4) {s n : Nat} (hs : s ≤ 3) (hn : n ≤ 40) : RX (s_up (s_up (s_up (s_up (s_up σ 38 t (-1)) 39 t (-1)) 40 t (nI 0)) 39 t (nI s)) 40 t (nI n)) (setSh τ t (nI 2) (nI s) (nI n)) f := by
  refine ⟨h.1, h.2.1, h.2.2.1, h.2.2.2.1, h.2.2.2.2.1, fun i hi => ?_, h.2.2.2.2.2.2⟩
  by_cases e : i = t
  · subst e
    exact Or.inr (Or.inr ⟨upd_s (f := τ 11), upd_s (f := σ 38), s, n, hs, hn, upd_s (f := τ 12), upd_s (f := τ 13), upd_s (f := upd (σ 39) i (-1)), upd_s (f := upd (σ 40) i (nI 0))⟩)
  · refine (h.2.2.2.2.2.1 i hi).cg ?_ ?_ ?_ ?_ ?_ ?_
    all_goals (simp [s_up, setSh, upd, e])
theorem RX.h3 {σ τ : Store} {f : Row} (h : RX σ τ f) {t : Nat} (ht : t < 4) (q : Int32) : RX (s_up (s_up (s_up (s_up (s_up σ 38 t (-1)) 39 t (-1)) 40 t (nI 0)) 39 t (-1)) 40 t q) (setSh τ t (nI 0) (nI 0) (nI 0)) f := by
  refine ⟨h.1, h.2.1, h.2.2.1, h.2.2.2.1, h.2.2.2.2.1, fun i hi => ?_, h.2.2.2.2.2.2⟩
  by_cases e : i = t
  · subst e
    exact Or.inl ⟨upd_s (f := τ 11), upd_s (f := σ 38), upd_s (f := upd (σ 39) i (-1))⟩
  · refine (h.2.2.2.2.2.1 i hi).cg ?_ ?_ ?_ ?_ ?_ ?_
    all_goals (simp [s_up, setSh, upd, e])
set_option maxRecDepth 20000 in
theorem k_shelf {σ τ : Store} {f : Row} (h : RX σ τ f) (x y z : Int32) : Ct ΛC mt_LS_shelf 2 [.ref 0, .int x, .int y, .int z] σ (cP (shelfS τ f x y z) (shelfV f x y z) f) := by
  refine Ct.of (by decide) (Nat.le_of_ble_eq_true rfl) (fun X hR => ?_)
  show G (ΛC, mt_LS_shelf, 2) X σ [some (.ref 0), some (.int x), some (.int y), some (.int z)] [] 0
  have hn8 := h.n8
  refine g_iload_n (by decide +kernel : decode prog_1_method_51_code 0 = .ok (.iload_n 1, 1)) rfl ?_
  refine g_callSI [.int x] (by decide +kernel : decode prog_1_method_51_code 1 = .ok (.invokestatic 285, 3)) lk_LS_285 (k_isShelf _ x) rfl rfl (Nat.le_of_ble_eq_true rfl) (Nat.le_of_ble_eq_true rfl) (fun r1 s1 h1 => ?_)
  rcases h1 with ⟨e1, ⟨rfl, t, ha1, hb1, rfl⟩ | ⟨rfl, n1⟩⟩
  · have e1 := e1.symm; subst e1
    refine g_if_neN (tgt := 9) (by decide +kernel : decode prog_1_method_51_code 4 = .ok (.ifCond .ne 5, 3)) (by decide) (by decide) (fun _ => ?_) (fun h => False.elim (by revert h; decide))
    refine g_iload_n (by decide +kernel : decode prog_1_method_51_code 9 = .ok (.iload_n 2, 1)) rfl ?_
    rcases sw_in y 3 (by decide) with ⟨j, hj, rfl⟩ | ⟨ho, hno⟩
    · rcases (show j = 0 ∨ j = 1 ∨ j = 2 by omega) with rfl | rfl | rfl
      · refine g_tableIn (x := nI 0) (off := 26) (tgt := 36) (by decide +kernel : decode prog_1_method_51_code 10 = .ok (.tableswitch 97 0 2 #[26, 50, 87], 26)) (by decide) (by decide) rfl (by decide) ?_
        refine g_aload_n (by decide +kernel : decode prog_1_method_51_code 36 = .ok (.aload_n 0, 1)) rfl ?_
        refine g_getR (by decide +kernel : decode prog_1_method_51_code 37 = .ok (.getfield 20, 3)) fl_LS_20 rfl rfl ?_
        refine g_iload_n (by decide +kernel : decode prog_1_method_51_code 40 = .ok (.iload_n 3, 1)) rfl ?_
        refine g_callVI [.int z] (by decide +kernel : decode prog_1_method_51_code 41 = .ok (.invokevirtual 116, 3)) lk_LS_116 (n_has h.n z) rfl rfl rfl rfl (Nat.le_of_ble_eq_true rfl) (Nat.le_of_ble_eq_true rfl) (fun r41 s41 h41 => ?_)
        rcases h41 with ⟨e41, ⟨rfl, o, ho41, rfl⟩ | ⟨rfl, n41⟩⟩
        · have e41 := e41.symm; subst e41
          refine g_if_neN (tgt := 49) (by decide +kernel : decode prog_1_method_51_code 44 = .ok (.ifCond .ne 5, 3)) (by decide) (by decide) (fun _ => ?_) (fun h => False.elim (by revert h; decide))
          refine g_aload_n (by decide +kernel : decode prog_1_method_51_code 49 = .ok (.aload_n 0, 1)) rfl ?_
          refine g_getR (by decide +kernel : decode prog_1_method_51_code 50 = .ok (.getfield 51, 3)) fl_LS_51 rfl rfl ?_
          refine g_iload_n (by decide +kernel : decode prog_1_method_51_code 53 = .ok (.iload_n 1, 1)) rfl ?_
          refine g_iload_n (by decide +kernel : decode prog_1_method_51_code 54 = .ok (.iload_n 3, 1)) rfl ?_
          refine g_callVV [.int (nI t), .int (nI o)] (by decide +kernel : decode prog_1_method_51_code 55 = .ok (.invokevirtual 288, 3)) lk_LS_288 (c_holdPerson _ (t := t) (by omega) (nI o)) rfl rfl rfl rfl (Nat.le_of_ble_eq_true rfl) (Nat.le_of_ble_eq_true rfl) (fun s55 h55 => ?_)
          obtain rfl := h55
          refine g_iconst (v := nI 1) (by decide +kernel : decode prog_1_method_51_code 58 = .ok (.iconst 1, 1)) (by decide) ?_
          exact g_iret hR (by decide +kernel : decode prog_1_method_51_code 59 = .ok (.ireturn, 1)) rfl ⟨_, rfl, ⟨by simp only [shelfV, rg_of ha1 hb1, rg_yes 2 0, pz_of h.i ho41], by simp only [shelfS, rg_of ha1 hb1, rg_yes 2 0, pz_of h.i ho41]; exact (h.h1 (t := t) (j := o) (by omega) (by omega))⟩⟩
        · have e41 := e41.symm; subst e41
          refine g_if_neN (tgt := 49) (by decide +kernel : decode prog_1_method_51_code 44 = .ok (.ifCond .ne 5, 3)) (by decide) (by decide) (fun h => False.elim (by revert h; decide)) (fun _ => ?_)
          refine g_iconst (v := (-1)) (by decide +kernel : decode prog_1_method_51_code 47 = .ok (.iconst (-1), 1)) (by decide) ?_
          exact g_iret hR (by decide +kernel : decode prog_1_method_51_code 48 = .ok (.ireturn, 1)) rfl ⟨_, rfl, ⟨by simp only [shelfV, rg_of ha1 hb1, rg_yes 2 0, pz_none h.i n41], by simp only [shelfS, rg_of ha1 hb1, rg_yes 2 0, pz_none h.i n41]; exact h⟩⟩
      · refine g_tableIn (x := nI 1) (off := 50) (tgt := 60) (by decide +kernel : decode prog_1_method_51_code 10 = .ok (.tableswitch 97 0 2 #[26, 50, 87], 26)) (by decide) (by decide) rfl (by decide) ?_
        refine g_iload_n (by decide +kernel : decode prog_1_method_51_code 60 = .ok (.iload_n 3, 1)) rfl ?_
        refine g_callSI [.int z] (by decide +kernel : decode prog_1_method_51_code 61 = .ok (.invokestatic 222, 3)) lk_LS_222 (k_isSheet _ z) rfl rfl (Nat.le_of_ble_eq_true rfl) (Nat.le_of_ble_eq_true rfl) (fun r61 s61 h61 => ?_)
        rcases h61 with ⟨e61, ⟨rfl, q, ha61, hb61, rfl⟩ | ⟨rfl, n61⟩⟩
        · have e61 := e61.symm; subst e61
          refine g_if_neN (tgt := 69) (by decide +kernel : decode prog_1_method_51_code 64 = .ok (.ifCond .ne 5, 3)) (by decide) (by decide) (fun _ => ?_) (fun h => False.elim (by revert h; decide))
          obtain ⟨sn, hsn, en⟩ := sh_size h (t := q) (by omega)
          rcases (h.s0 q (by omega)).1 with e8 | ⟨sk, hsk, e8⟩
          · refine g_aload_n (by decide +kernel : decode prog_1_method_51_code 69 = .ok (.aload_n 0, 1)) rfl ?_
            refine g_getR (by decide +kernel : decode prog_1_method_51_code 70 = .ok (.getfield 51, 3)) fl_LS_51 rfl rfl ?_
            refine g_iload_n (by decide +kernel : decode prog_1_method_51_code 73 = .ok (.iload_n 1, 1)) rfl ?_
            refine g_aload_n (by decide +kernel : decode prog_1_method_51_code 74 = .ok (.aload_n 0, 1)) rfl ?_
            refine g_getR (by decide +kernel : decode prog_1_method_51_code 75 = .ok (.getfield 44, 3)) fl_LS_44 rfl rfl ?_
            refine g_getR (by decide +kernel : decode prog_1_method_51_code 78 = .ok (.getfield 262, 3)) fl_LS_262 rfl rfl ?_
            refine g_iload_n (by decide +kernel : decode prog_1_method_51_code 81 = .ok (.iload_n 3, 1)) rfl ?_
            refine g_iaload (a := q) (by decide +kernel : decode prog_1_method_51_code 82 = .ok (.iaload, 1)) rfl rfl (by omega) (by decide) ?_
            refine g_top (w := (-1)) ((h.s1 (t := q) (by omega)).trans e8) ?_
            refine g_aload_n (by decide +kernel : decode prog_1_method_51_code 83 = .ok (.aload_n 0, 1)) rfl ?_
            refine g_getR (by decide +kernel : decode prog_1_method_51_code 84 = .ok (.getfield 44, 3)) fl_LS_44 rfl rfl ?_
            refine g_getR (by decide +kernel : decode prog_1_method_51_code 87 = .ok (.getfield 265, 3)) fl_LS_265 rfl rfl ?_
            refine g_iload_n (by decide +kernel : decode prog_1_method_51_code 90 = .ok (.iload_n 3, 1)) rfl ?_
            refine g_iaload (a := q) (by decide +kernel : decode prog_1_method_51_code 91 = .ok (.iaload, 1)) rfl rfl (by omega) (by decide) ?_
            refine g_top (w := nI sn) ((h.s2 (t := q) (by omega)).trans en) ?_
            refine g_callVV [.int (nI t), .int (-1), .int (nI sn)] (by decide +kernel : decode prog_1_method_51_code 92 = .ok (.invokevirtual 291, 3)) lk_LS_291 (c_holdRow _ (t := t) (by omega) (-1) (nI sn)) rfl rfl rfl rfl (Nat.le_of_ble_eq_true rfl) (Nat.le_of_ble_eq_true rfl) (fun s92 h92 => ?_)
            obtain rfl := h92
            refine g_iconst (v := nI 1) (by decide +kernel : decode prog_1_method_51_code 95 = .ok (.iconst 1, 1)) (by decide) ?_
            exact g_iret hR (by decide +kernel : decode prog_1_method_51_code 96 = .ok (.ireturn, 1)) rfl ⟨_, rfl, ⟨by simp only [shelfV, rg_of ha1 hb1, rg_yes 2 1, rg_of ha61 hb61, neg8 e8], by simp only [shelfS, rg_of ha1 hb1, rg_yes 2 1, rg_of ha61 hb61, neg8 e8]; exact (h.h3 (t := t) (by omega) _)⟩⟩
          · refine g_aload_n (by decide +kernel : decode prog_1_method_51_code 69 = .ok (.aload_n 0, 1)) rfl ?_
            refine g_getR (by decide +kernel : decode prog_1_method_51_code 70 = .ok (.getfield 51, 3)) fl_LS_51 rfl rfl ?_
            refine g_iload_n (by decide +kernel : decode prog_1_method_51_code 73 = .ok (.iload_n 1, 1)) rfl ?_
            refine g_aload_n (by decide +kernel : decode prog_1_method_51_code 74 = .ok (.aload_n 0, 1)) rfl ?_
            refine g_getR (by decide +kernel : decode prog_1_method_51_code 75 = .ok (.getfield 44, 3)) fl_LS_44 rfl rfl ?_
            refine g_getR (by decide +kernel : decode prog_1_method_51_code 78 = .ok (.getfield 262, 3)) fl_LS_262 rfl rfl ?_
            refine g_iload_n (by decide +kernel : decode prog_1_method_51_code 81 = .ok (.iload_n 3, 1)) rfl ?_
            refine g_iaload (a := q) (by decide +kernel : decode prog_1_method_51_code 82 = .ok (.iaload, 1)) rfl rfl (by omega) (by decide) ?_
            refine g_top (w := nI sk) ((h.s1 (t := q) (by omega)).trans e8) ?_
            refine g_aload_n (by decide +kernel : decode prog_1_method_51_code 83 = .ok (.aload_n 0, 1)) rfl ?_
            refine g_getR (by decide +kernel : decode prog_1_method_51_code 84 = .ok (.getfield 44, 3)) fl_LS_44 rfl rfl ?_
            refine g_getR (by decide +kernel : decode prog_1_method_51_code 87 = .ok (.getfield 265, 3)) fl_LS_265 rfl rfl ?_
            refine g_iload_n (by decide +kernel : decode prog_1_method_51_code 90 = .ok (.iload_n 3, 1)) rfl ?_
            refine g_iaload (a := q) (by decide +kernel : decode prog_1_method_51_code 91 = .ok (.iaload, 1)) rfl rfl (by omega) (by decide) ?_
            refine g_top (w := nI sn) ((h.s2 (t := q) (by omega)).trans en) ?_
            refine g_callVV [.int (nI t), .int (nI sk), .int (nI sn)] (by decide +kernel : decode prog_1_method_51_code 92 = .ok (.invokevirtual 291, 3)) lk_LS_291 (c_holdRow _ (t := t) (by omega) (nI sk) (nI sn)) rfl rfl rfl rfl (Nat.le_of_ble_eq_true rfl) (Nat.le_of_ble_eq_true rfl) (fun s92 h92 => ?_)
            obtain rfl := h92
            refine g_iconst (v := nI 1) (by decide +kernel : decode prog_1_method_51_code 95 = .ok (.iconst 1, 1)) (by decide) ?_
            exact g_iret hR (by decide +kernel : decode prog_1_method_51_code 96 = .ok (.ireturn, 1)) rfl ⟨_, rfl, ⟨by simp only [shelfV, rg_of ha1 hb1, rg_yes 2 1, rg_of ha61 hb61, pos8 hsk e8], by simp only [shelfS, rg_of ha1 hb1, rg_yes 2 1, rg_of ha61 hb61, pos8 hsk e8]; rw [e8, en]; exact (h.h2 (t := t) (s := sk) (n := sn) (by omega) hsk hsn)⟩⟩
        · have e61 := e61.symm; subst e61
          refine g_if_neN (tgt := 69) (by decide +kernel : decode prog_1_method_51_code 64 = .ok (.ifCond .ne 5, 3)) (by decide) (by decide) (fun h => False.elim (by revert h; decide)) (fun _ => ?_)
          refine g_iconst (v := (-1)) (by decide +kernel : decode prog_1_method_51_code 67 = .ok (.iconst (-1), 1)) (by decide) ?_
          exact g_iret hR (by decide +kernel : decode prog_1_method_51_code 68 = .ok (.ireturn, 1)) rfl ⟨_, rfl, ⟨by simp only [shelfV, rg_of ha1 hb1, rg_yes 2 1, rg_none n61], by simp only [shelfS, rg_of ha1 hb1, rg_yes 2 1, rg_none n61]; exact h⟩⟩
      · refine g_tableIn (x := nI 2) (off := 87) (tgt := 97) (by decide +kernel : decode prog_1_method_51_code 10 = .ok (.tableswitch 97 0 2 #[26, 50, 87], 26)) (by decide) (by decide) rfl (by decide) ?_
        refine g_aload_n (by decide +kernel : decode prog_1_method_51_code 97 = .ok (.aload_n 0, 1)) rfl ?_
        refine g_getR (by decide +kernel : decode prog_1_method_51_code 98 = .ok (.getfield 51, 3)) fl_LS_51 rfl rfl ?_
        refine g_iload_n (by decide +kernel : decode prog_1_method_51_code 101 = .ok (.iload_n 1, 1)) rfl ?_
        refine g_callVV [.int (nI t)] (by decide +kernel : decode prog_1_method_51_code 102 = .ok (.invokevirtual 294, 3)) lk_LS_294 (c_holdNothing _ (t := t) (by omega)) rfl rfl rfl rfl (Nat.le_of_ble_eq_true rfl) (Nat.le_of_ble_eq_true rfl) (fun s102 h102 => ?_)
        obtain rfl := h102
        refine g_iconst (v := nI 1) (by decide +kernel : decode prog_1_method_51_code 105 = .ok (.iconst 1, 1)) (by decide) ?_
        exact g_iret hR (by decide +kernel : decode prog_1_method_51_code 106 = .ok (.ireturn, 1)) rfl ⟨_, rfl, ⟨by simp only [shelfV, rg_of ha1 hb1, rg_yes 2 2], by simp only [shelfS, rg_of ha1 hb1, rg_yes 2 2]; exact (h.h0 (t := t) (by omega))⟩⟩
    · refine g_tableOut (tgt := 107) (by decide +kernel : decode prog_1_method_51_code 10 = .ok (.tableswitch 97 0 2 #[26, 50, 87], 26)) (by omega) (by decide) ?_
      refine g_iconst (v := (-1)) (by decide +kernel : decode prog_1_method_51_code 107 = .ok (.iconst (-1), 1)) (by decide) ?_
      exact g_iret hR (by decide +kernel : decode prog_1_method_51_code 108 = .ok (.ireturn, 1)) rfl ⟨_, rfl, ⟨by simp only [shelfV, rg_of ha1 hb1, rg_no hno], by simp only [shelfS, rg_of ha1 hb1, rg_no hno]; exact h⟩⟩
  · have e1 := e1.symm; subst e1
    refine g_if_neN (tgt := 9) (by decide +kernel : decode prog_1_method_51_code 4 = .ok (.ifCond .ne 5, 3)) (by decide) (by decide) (fun h => False.elim (by revert h; decide)) (fun _ => ?_)
    refine g_iconst (v := (-1)) (by decide +kernel : decode prog_1_method_51_code 7 = .ok (.iconst (-1), 1)) (by decide) ?_
    exact g_iret hR (by decide +kernel : decode prog_1_method_51_code 8 = .ok (.ireturn, 1)) rfl ⟨_, rfl, ⟨by simp only [shelfV, rg_none n1], by simp only [shelfS, rg_none n1]; exact h⟩⟩
theorem rv2 : ∀ k : Fin 6, (roV 2).getD k.val 0 = (match k.val with | 0 => (-1 : Int32) | 1 => nI 0 | 2 => nI 0 | 3 => nI 1 | 4 => nI 2 | _ => nI 0) := by decide
set_option maxRecDepth 20000 in
theorem k_isUnder0 (σ : Store) {c : Nat} (hc : c ≤ 5) : Ct ΛC mt_LS_isUnder 2 [.int (nI 0), .int (nI c)] σ (PB σ (und 0 c)) := by
  refine Ct.of (by decide) (Nat.le_of_ble_eq_true rfl) (fun X hR => ?_)
  show G (ΛC, mt_LS_isUnder, 2) X σ [some (.int (nI 0)), some (.int (nI c)), none, none] [] 0
  refine g_iload_n (by decide +kernel : decode prog_1_method_53_code 0 = .ok (.iload_n 0, 1)) rfl ?_
  refine g_istore_n (L' := [some (.int (nI 0)), some (.int (nI c)), some (.int (nI 0)), none]) (by decide +kernel : decode prog_1_method_53_code 1 = .ok (.istore_n 2, 1)) (Nat.le_of_ble_eq_true rfl) rfl ?_
  refine g_iconst (v := nI 0) (by decide +kernel : decode prog_1_method_53_code 2 = .ok (.iconst 0, 1)) (by decide) ?_
  refine g_istore_n (L' := [some (.int (nI 0)), some (.int (nI c)), some (.int (nI 0)), some (.int (nI 0))]) (by decide +kernel : decode prog_1_method_53_code 3 = .ok (.istore_n 3, 1)) (Nat.le_of_ble_eq_true rfl) rfl ?_
  refine g_iload_n (by decide +kernel : decode prog_1_method_53_code 4 = .ok (.iload_n 3, 1)) rfl ?_
  refine g_bipush (v := nI 6) (by decide +kernel : decode prog_1_method_53_code 5 = .ok (.bipush 6, 2)) (by decide) ?_
  refine g_icmp_geN (tgt := 36) (by decide +kernel : decode prog_1_method_53_code 7 = .ok (.if_icmp .ge 29, 3)) (by decide) (by decide) (by decide) (fun h => False.elim (by revert h; decide)) (fun _ => ?_)
  refine g_iload_n (by decide +kernel : decode prog_1_method_53_code 10 = .ok (.iload_n 2, 1)) rfl ?_
  refine g_callSI [.int (nI 0)] (by decide +kernel : decode prog_1_method_53_code 11 = .ok (.invokestatic 106, 3)) lk_LS_106 (k_isKind _ (nI 0)) rfl rfl (Nat.le_of_ble_eq_true rfl) (Nat.le_of_ble_eq_true rfl) (fun r11 s11 h11 => ?_)
  obtain ⟨e11, h11⟩ := h11
  have e11 := e11.symm; subst e11
  have w11 : r11 = nI 1 := by rcases h11 with ⟨z, _⟩ | ⟨z, q⟩; exact z; exact absurd ⟨0, by omega, by omega, rfl⟩ q
  subst w11
  clear h11
  refine g_if_eqN (tgt := 36) (by decide +kernel : decode prog_1_method_53_code 14 = .ok (.ifCond .eq 22, 3)) (by decide) (by decide) (fun h => False.elim (by revert h; decide)) (fun _ => ?_)
  refine g_iload_n (by decide +kernel : decode prog_1_method_53_code 17 = .ok (.iload_n 2, 1)) rfl ?_
  refine g_iload_n (by decide +kernel : decode prog_1_method_53_code 18 = .ok (.iload_n 1, 1)) rfl ?_
  refine g_icmp_neN (tgt := 24) (by decide +kernel : decode prog_1_method_53_code 19 = .ok (.if_icmp .ne 5, 3)) (by decide) (by decide) (by omega) (fun h19 => ?_) (fun h19 => ?_)
  · refine g_gets (j := 2) (by decide +kernel : decode prog_1_method_53_code 24 = .ok (.getstatic 312, 3)) (by decide) sl_LS_312 ?_
    refine g_iload_n (by decide +kernel : decode prog_1_method_53_code 27 = .ok (.iload_n 2, 1)) rfl ?_
    refine g_roload (j := 2) (a := 0) (by decide +kernel : decode prog_1_method_53_code 28 = .ok (.iaload, 1)) (by decide) rfl (by decide) ?_
    refine g_top (w := (-1)) (by decide) ?_
    refine g_istore_n (L' := [some (.int (nI 0)), some (.int (nI c)), some (.int (-1)), some (.int (nI 0))]) (by decide +kernel : decode prog_1_method_53_code 29 = .ok (.istore_n 2, 1)) (Nat.le_of_ble_eq_true rfl) rfl ?_
    refine g_iincN (n := 1) (L' := [some (.int (nI 0)), some (.int (nI c)), some (.int (-1)), some (.int (nI (0 + 1)))]) (by decide +kernel : decode prog_1_method_53_code 30 = .ok (.iinc 3 1, 3)) rfl (by decide) (Nat.le_of_ble_eq_true rfl) rfl ?_
    refine g_goto (tgt := 4) (by decide +kernel : decode prog_1_method_53_code 33 = .ok (.goto (-29), 3)) (by decide) ?_
    refine g_sub (L' := [some (.int (nI 0)), some (.int (nI c)), some (.int (-1)), some (.int (nI 1))]) ⟨rfl, rfl, rfl, rfl, trivial⟩ ?_
    refine g_iload_n (by decide +kernel : decode prog_1_method_53_code 4 = .ok (.iload_n 3, 1)) rfl ?_
    refine g_bipush (v := nI 6) (by decide +kernel : decode prog_1_method_53_code 5 = .ok (.bipush 6, 2)) (by decide) ?_
    refine g_icmp_geN (tgt := 36) (by decide +kernel : decode prog_1_method_53_code 7 = .ok (.if_icmp .ge 29, 3)) (by decide) (by decide) (by decide) (fun h => False.elim (by revert h; decide)) (fun _ => ?_)
    refine g_iload_n (by decide +kernel : decode prog_1_method_53_code 10 = .ok (.iload_n 2, 1)) rfl ?_
    refine g_callSI [.int (-1)] (by decide +kernel : decode prog_1_method_53_code 11 = .ok (.invokestatic 106, 3)) lk_LS_106 (k_isKind _ (-1)) rfl rfl (Nat.le_of_ble_eq_true rfl) (Nat.le_of_ble_eq_true rfl) (fun r11 s11 h11 => ?_)
    obtain ⟨e11, h11⟩ := h11
    have e11 := e11.symm; subst e11
    have w11 : r11 = nI 0 := by rcases h11 with ⟨z, j, _, hj, q⟩ | ⟨z, _⟩; exact absurd q (m1_ne (by omega)); exact z
    subst w11
    clear h11
    refine g_if_eqN (tgt := 36) (by decide +kernel : decode prog_1_method_53_code 14 = .ok (.ifCond .eq 22, 3)) (by decide) (by decide) (fun _ => ?_) (fun h => False.elim (by revert h; decide))
    refine g_iconst (v := nI 0) (by decide +kernel : decode prog_1_method_53_code 36 = .ok (.iconst 0, 1)) (by decide) ?_
    exact g_zret hR (by decide +kernel : decode prog_1_method_53_code 37 = .ok (.ireturn, 1)) rfl (by decide) ⟨_, rfl, ⟨rfl, Or.inr ⟨rfl, by unfold und; omega⟩⟩⟩
  · refine g_iconst (v := nI 1) (by decide +kernel : decode prog_1_method_53_code 22 = .ok (.iconst 1, 1)) (by decide) ?_
    exact g_zret hR (by decide +kernel : decode prog_1_method_53_code 23 = .ok (.ireturn, 1)) rfl (by decide) ⟨_, rfl, ⟨rfl, Or.inl ⟨rfl, by unfold und; omega⟩⟩⟩
set_option maxRecDepth 20000 in
theorem k_isUnder1 (σ : Store) {c : Nat} (hc : c ≤ 5) : Ct ΛC mt_LS_isUnder 2 [.int (nI 1), .int (nI c)] σ (PB σ (und 1 c)) := by
  refine Ct.of (by decide) (Nat.le_of_ble_eq_true rfl) (fun X hR => ?_)
  show G (ΛC, mt_LS_isUnder, 2) X σ [some (.int (nI 1)), some (.int (nI c)), none, none] [] 0
  refine g_iload_n (by decide +kernel : decode prog_1_method_53_code 0 = .ok (.iload_n 0, 1)) rfl ?_
  refine g_istore_n (L' := [some (.int (nI 1)), some (.int (nI c)), some (.int (nI 1)), none]) (by decide +kernel : decode prog_1_method_53_code 1 = .ok (.istore_n 2, 1)) (Nat.le_of_ble_eq_true rfl) rfl ?_
  refine g_iconst (v := nI 0) (by decide +kernel : decode prog_1_method_53_code 2 = .ok (.iconst 0, 1)) (by decide) ?_
  refine g_istore_n (L' := [some (.int (nI 1)), some (.int (nI c)), some (.int (nI 1)), some (.int (nI 0))]) (by decide +kernel : decode prog_1_method_53_code 3 = .ok (.istore_n 3, 1)) (Nat.le_of_ble_eq_true rfl) rfl ?_
  refine g_iload_n (by decide +kernel : decode prog_1_method_53_code 4 = .ok (.iload_n 3, 1)) rfl ?_
  refine g_bipush (v := nI 6) (by decide +kernel : decode prog_1_method_53_code 5 = .ok (.bipush 6, 2)) (by decide) ?_
  refine g_icmp_geN (tgt := 36) (by decide +kernel : decode prog_1_method_53_code 7 = .ok (.if_icmp .ge 29, 3)) (by decide) (by decide) (by decide) (fun h => False.elim (by revert h; decide)) (fun _ => ?_)
  refine g_iload_n (by decide +kernel : decode prog_1_method_53_code 10 = .ok (.iload_n 2, 1)) rfl ?_
  refine g_callSI [.int (nI 1)] (by decide +kernel : decode prog_1_method_53_code 11 = .ok (.invokestatic 106, 3)) lk_LS_106 (k_isKind _ (nI 1)) rfl rfl (Nat.le_of_ble_eq_true rfl) (Nat.le_of_ble_eq_true rfl) (fun r11 s11 h11 => ?_)
  obtain ⟨e11, h11⟩ := h11
  have e11 := e11.symm; subst e11
  have w11 : r11 = nI 1 := by rcases h11 with ⟨z, _⟩ | ⟨z, q⟩; exact z; exact absurd ⟨1, by omega, by omega, rfl⟩ q
  subst w11
  clear h11
  refine g_if_eqN (tgt := 36) (by decide +kernel : decode prog_1_method_53_code 14 = .ok (.ifCond .eq 22, 3)) (by decide) (by decide) (fun h => False.elim (by revert h; decide)) (fun _ => ?_)
  refine g_iload_n (by decide +kernel : decode prog_1_method_53_code 17 = .ok (.iload_n 2, 1)) rfl ?_
  refine g_iload_n (by decide +kernel : decode prog_1_method_53_code 18 = .ok (.iload_n 1, 1)) rfl ?_
  refine g_icmp_neN (tgt := 24) (by decide +kernel : decode prog_1_method_53_code 19 = .ok (.if_icmp .ne 5, 3)) (by decide) (by decide) (by omega) (fun h19 => ?_) (fun h19 => ?_)
  · refine g_gets (j := 2) (by decide +kernel : decode prog_1_method_53_code 24 = .ok (.getstatic 312, 3)) (by decide) sl_LS_312 ?_
    refine g_iload_n (by decide +kernel : decode prog_1_method_53_code 27 = .ok (.iload_n 2, 1)) rfl ?_
    refine g_roload (j := 2) (a := 1) (by decide +kernel : decode prog_1_method_53_code 28 = .ok (.iaload, 1)) (by decide) rfl (by decide) ?_
    refine g_top (w := nI 0) (by decide) ?_
    refine g_istore_n (L' := [some (.int (nI 1)), some (.int (nI c)), some (.int (nI 0)), some (.int (nI 0))]) (by decide +kernel : decode prog_1_method_53_code 29 = .ok (.istore_n 2, 1)) (Nat.le_of_ble_eq_true rfl) rfl ?_
    refine g_iincN (n := 1) (L' := [some (.int (nI 1)), some (.int (nI c)), some (.int (nI 0)), some (.int (nI (0 + 1)))]) (by decide +kernel : decode prog_1_method_53_code 30 = .ok (.iinc 3 1, 3)) rfl (by decide) (Nat.le_of_ble_eq_true rfl) rfl ?_
    refine g_goto (tgt := 4) (by decide +kernel : decode prog_1_method_53_code 33 = .ok (.goto (-29), 3)) (by decide) ?_
    refine g_sub (L' := [some (.int (nI 1)), some (.int (nI c)), some (.int (nI 0)), some (.int (nI 1))]) ⟨rfl, rfl, rfl, rfl, trivial⟩ ?_
    refine g_iload_n (by decide +kernel : decode prog_1_method_53_code 4 = .ok (.iload_n 3, 1)) rfl ?_
    refine g_bipush (v := nI 6) (by decide +kernel : decode prog_1_method_53_code 5 = .ok (.bipush 6, 2)) (by decide) ?_
    refine g_icmp_geN (tgt := 36) (by decide +kernel : decode prog_1_method_53_code 7 = .ok (.if_icmp .ge 29, 3)) (by decide) (by decide) (by decide) (fun h => False.elim (by revert h; decide)) (fun _ => ?_)
    refine g_iload_n (by decide +kernel : decode prog_1_method_53_code 10 = .ok (.iload_n 2, 1)) rfl ?_
    refine g_callSI [.int (nI 0)] (by decide +kernel : decode prog_1_method_53_code 11 = .ok (.invokestatic 106, 3)) lk_LS_106 (k_isKind _ (nI 0)) rfl rfl (Nat.le_of_ble_eq_true rfl) (Nat.le_of_ble_eq_true rfl) (fun r11 s11 h11 => ?_)
    obtain ⟨e11, h11⟩ := h11
    have e11 := e11.symm; subst e11
    have w11 : r11 = nI 1 := by rcases h11 with ⟨z, _⟩ | ⟨z, q⟩; exact z; exact absurd ⟨0, by omega, by omega, rfl⟩ q
    subst w11
    clear h11
    refine g_if_eqN (tgt := 36) (by decide +kernel : decode prog_1_method_53_code 14 = .ok (.ifCond .eq 22, 3)) (by decide) (by decide) (fun h => False.elim (by revert h; decide)) (fun _ => ?_)
    refine g_iload_n (by decide +kernel : decode prog_1_method_53_code 17 = .ok (.iload_n 2, 1)) rfl ?_
    refine g_iload_n (by decide +kernel : decode prog_1_method_53_code 18 = .ok (.iload_n 1, 1)) rfl ?_
    refine g_icmp_neN (tgt := 24) (by decide +kernel : decode prog_1_method_53_code 19 = .ok (.if_icmp .ne 5, 3)) (by decide) (by decide) (by omega) (fun h19 => ?_) (fun h19 => ?_)
    · refine g_gets (j := 2) (by decide +kernel : decode prog_1_method_53_code 24 = .ok (.getstatic 312, 3)) (by decide) sl_LS_312 ?_
      refine g_iload_n (by decide +kernel : decode prog_1_method_53_code 27 = .ok (.iload_n 2, 1)) rfl ?_
      refine g_roload (j := 2) (a := 0) (by decide +kernel : decode prog_1_method_53_code 28 = .ok (.iaload, 1)) (by decide) rfl (by decide) ?_
      refine g_top (w := (-1)) (by decide) ?_
      refine g_istore_n (L' := [some (.int (nI 1)), some (.int (nI c)), some (.int (-1)), some (.int (nI 1))]) (by decide +kernel : decode prog_1_method_53_code 29 = .ok (.istore_n 2, 1)) (Nat.le_of_ble_eq_true rfl) rfl ?_
      refine g_iincN (n := 1) (L' := [some (.int (nI 1)), some (.int (nI c)), some (.int (-1)), some (.int (nI (1 + 1)))]) (by decide +kernel : decode prog_1_method_53_code 30 = .ok (.iinc 3 1, 3)) rfl (by decide) (Nat.le_of_ble_eq_true rfl) rfl ?_
      refine g_goto (tgt := 4) (by decide +kernel : decode prog_1_method_53_code 33 = .ok (.goto (-29), 3)) (by decide) ?_
      refine g_sub (L' := [some (.int (nI 1)), some (.int (nI c)), some (.int (-1)), some (.int (nI 2))]) ⟨rfl, rfl, rfl, rfl, trivial⟩ ?_
      refine g_iload_n (by decide +kernel : decode prog_1_method_53_code 4 = .ok (.iload_n 3, 1)) rfl ?_
      refine g_bipush (v := nI 6) (by decide +kernel : decode prog_1_method_53_code 5 = .ok (.bipush 6, 2)) (by decide) ?_
      refine g_icmp_geN (tgt := 36) (by decide +kernel : decode prog_1_method_53_code 7 = .ok (.if_icmp .ge 29, 3)) (by decide) (by decide) (by decide) (fun h => False.elim (by revert h; decide)) (fun _ => ?_)
      refine g_iload_n (by decide +kernel : decode prog_1_method_53_code 10 = .ok (.iload_n 2, 1)) rfl ?_
      refine g_callSI [.int (-1)] (by decide +kernel : decode prog_1_method_53_code 11 = .ok (.invokestatic 106, 3)) lk_LS_106 (k_isKind _ (-1)) rfl rfl (Nat.le_of_ble_eq_true rfl) (Nat.le_of_ble_eq_true rfl) (fun r11 s11 h11 => ?_)
      obtain ⟨e11, h11⟩ := h11
      have e11 := e11.symm; subst e11
      have w11 : r11 = nI 0 := by rcases h11 with ⟨z, j, _, hj, q⟩ | ⟨z, _⟩; exact absurd q (m1_ne (by omega)); exact z
      subst w11
      clear h11
      refine g_if_eqN (tgt := 36) (by decide +kernel : decode prog_1_method_53_code 14 = .ok (.ifCond .eq 22, 3)) (by decide) (by decide) (fun _ => ?_) (fun h => False.elim (by revert h; decide))
      refine g_iconst (v := nI 0) (by decide +kernel : decode prog_1_method_53_code 36 = .ok (.iconst 0, 1)) (by decide) ?_
      exact g_zret hR (by decide +kernel : decode prog_1_method_53_code 37 = .ok (.ireturn, 1)) rfl (by decide) ⟨_, rfl, ⟨rfl, Or.inr ⟨rfl, by unfold und; omega⟩⟩⟩
    · refine g_iconst (v := nI 1) (by decide +kernel : decode prog_1_method_53_code 22 = .ok (.iconst 1, 1)) (by decide) ?_
      exact g_zret hR (by decide +kernel : decode prog_1_method_53_code 23 = .ok (.ireturn, 1)) rfl (by decide) ⟨_, rfl, ⟨rfl, Or.inl ⟨rfl, by unfold und; omega⟩⟩⟩
  · refine g_iconst (v := nI 1) (by decide +kernel : decode prog_1_method_53_code 22 = .ok (.iconst 1, 1)) (by decide) ?_
    exact g_zret hR (by decide +kernel : decode prog_1_method_53_code 23 = .ok (.ireturn, 1)) rfl (by decide) ⟨_, rfl, ⟨rfl, Or.inl ⟨rfl, by unfold und; omega⟩⟩⟩
set_option maxRecDepth 20000 in
theorem k_isUnder2 (σ : Store) {c : Nat} (hc : c ≤ 5) : Ct ΛC mt_LS_isUnder 2 [.int (nI 2), .int (nI c)] σ (PB σ (und 2 c)) := by
  refine Ct.of (by decide) (Nat.le_of_ble_eq_true rfl) (fun X hR => ?_)
  show G (ΛC, mt_LS_isUnder, 2) X σ [some (.int (nI 2)), some (.int (nI c)), none, none] [] 0
  refine g_iload_n (by decide +kernel : decode prog_1_method_53_code 0 = .ok (.iload_n 0, 1)) rfl ?_
  refine g_istore_n (L' := [some (.int (nI 2)), some (.int (nI c)), some (.int (nI 2)), none]) (by decide +kernel : decode prog_1_method_53_code 1 = .ok (.istore_n 2, 1)) (Nat.le_of_ble_eq_true rfl) rfl ?_
  refine g_iconst (v := nI 0) (by decide +kernel : decode prog_1_method_53_code 2 = .ok (.iconst 0, 1)) (by decide) ?_
  refine g_istore_n (L' := [some (.int (nI 2)), some (.int (nI c)), some (.int (nI 2)), some (.int (nI 0))]) (by decide +kernel : decode prog_1_method_53_code 3 = .ok (.istore_n 3, 1)) (Nat.le_of_ble_eq_true rfl) rfl ?_
  refine g_iload_n (by decide +kernel : decode prog_1_method_53_code 4 = .ok (.iload_n 3, 1)) rfl ?_
  refine g_bipush (v := nI 6) (by decide +kernel : decode prog_1_method_53_code 5 = .ok (.bipush 6, 2)) (by decide) ?_
  refine g_icmp_geN (tgt := 36) (by decide +kernel : decode prog_1_method_53_code 7 = .ok (.if_icmp .ge 29, 3)) (by decide) (by decide) (by decide) (fun h => False.elim (by revert h; decide)) (fun _ => ?_)
  refine g_iload_n (by decide +kernel : decode prog_1_method_53_code 10 = .ok (.iload_n 2, 1)) rfl ?_
  refine g_callSI [.int (nI 2)] (by decide +kernel : decode prog_1_method_53_code 11 = .ok (.invokestatic 106, 3)) lk_LS_106 (k_isKind _ (nI 2)) rfl rfl (Nat.le_of_ble_eq_true rfl) (Nat.le_of_ble_eq_true rfl) (fun r11 s11 h11 => ?_)
  obtain ⟨e11, h11⟩ := h11
  have e11 := e11.symm; subst e11
  have w11 : r11 = nI 1 := by rcases h11 with ⟨z, _⟩ | ⟨z, q⟩; exact z; exact absurd ⟨2, by omega, by omega, rfl⟩ q
  subst w11
  clear h11
  refine g_if_eqN (tgt := 36) (by decide +kernel : decode prog_1_method_53_code 14 = .ok (.ifCond .eq 22, 3)) (by decide) (by decide) (fun h => False.elim (by revert h; decide)) (fun _ => ?_)
  refine g_iload_n (by decide +kernel : decode prog_1_method_53_code 17 = .ok (.iload_n 2, 1)) rfl ?_
  refine g_iload_n (by decide +kernel : decode prog_1_method_53_code 18 = .ok (.iload_n 1, 1)) rfl ?_
  refine g_icmp_neN (tgt := 24) (by decide +kernel : decode prog_1_method_53_code 19 = .ok (.if_icmp .ne 5, 3)) (by decide) (by decide) (by omega) (fun h19 => ?_) (fun h19 => ?_)
  · refine g_gets (j := 2) (by decide +kernel : decode prog_1_method_53_code 24 = .ok (.getstatic 312, 3)) (by decide) sl_LS_312 ?_
    refine g_iload_n (by decide +kernel : decode prog_1_method_53_code 27 = .ok (.iload_n 2, 1)) rfl ?_
    refine g_roload (j := 2) (a := 2) (by decide +kernel : decode prog_1_method_53_code 28 = .ok (.iaload, 1)) (by decide) rfl (by decide) ?_
    refine g_top (w := nI 0) (by decide) ?_
    refine g_istore_n (L' := [some (.int (nI 2)), some (.int (nI c)), some (.int (nI 0)), some (.int (nI 0))]) (by decide +kernel : decode prog_1_method_53_code 29 = .ok (.istore_n 2, 1)) (Nat.le_of_ble_eq_true rfl) rfl ?_
    refine g_iincN (n := 1) (L' := [some (.int (nI 2)), some (.int (nI c)), some (.int (nI 0)), some (.int (nI (0 + 1)))]) (by decide +kernel : decode prog_1_method_53_code 30 = .ok (.iinc 3 1, 3)) rfl (by decide) (Nat.le_of_ble_eq_true rfl) rfl ?_
    refine g_goto (tgt := 4) (by decide +kernel : decode prog_1_method_53_code 33 = .ok (.goto (-29), 3)) (by decide) ?_
    refine g_sub (L' := [some (.int (nI 2)), some (.int (nI c)), some (.int (nI 0)), some (.int (nI 1))]) ⟨rfl, rfl, rfl, rfl, trivial⟩ ?_
    refine g_iload_n (by decide +kernel : decode prog_1_method_53_code 4 = .ok (.iload_n 3, 1)) rfl ?_
    refine g_bipush (v := nI 6) (by decide +kernel : decode prog_1_method_53_code 5 = .ok (.bipush 6, 2)) (by decide) ?_
    refine g_icmp_geN (tgt := 36) (by decide +kernel : decode prog_1_method_53_code 7 = .ok (.if_icmp .ge 29, 3)) (by decide) (by decide) (by decide) (fun h => False.elim (by revert h; decide)) (fun _ => ?_)
    refine g_iload_n (by decide +kernel : decode prog_1_method_53_code 10 = .ok (.iload_n 2, 1)) rfl ?_
    refine g_callSI [.int (nI 0)] (by decide +kernel : decode prog_1_method_53_code 11 = .ok (.invokestatic 106, 3)) lk_LS_106 (k_isKind _ (nI 0)) rfl rfl (Nat.le_of_ble_eq_true rfl) (Nat.le_of_ble_eq_true rfl) (fun r11 s11 h11 => ?_)
    obtain ⟨e11, h11⟩ := h11
    have e11 := e11.symm; subst e11
    have w11 : r11 = nI 1 := by rcases h11 with ⟨z, _⟩ | ⟨z, q⟩; exact z; exact absurd ⟨0, by omega, by omega, rfl⟩ q
    subst w11
    clear h11
    refine g_if_eqN (tgt := 36) (by decide +kernel : decode prog_1_method_53_code 14 = .ok (.ifCond .eq 22, 3)) (by decide) (by decide) (fun h => False.elim (by revert h; decide)) (fun _ => ?_)
    refine g_iload_n (by decide +kernel : decode prog_1_method_53_code 17 = .ok (.iload_n 2, 1)) rfl ?_
    refine g_iload_n (by decide +kernel : decode prog_1_method_53_code 18 = .ok (.iload_n 1, 1)) rfl ?_
    refine g_icmp_neN (tgt := 24) (by decide +kernel : decode prog_1_method_53_code 19 = .ok (.if_icmp .ne 5, 3)) (by decide) (by decide) (by omega) (fun h19 => ?_) (fun h19 => ?_)
    · refine g_gets (j := 2) (by decide +kernel : decode prog_1_method_53_code 24 = .ok (.getstatic 312, 3)) (by decide) sl_LS_312 ?_
      refine g_iload_n (by decide +kernel : decode prog_1_method_53_code 27 = .ok (.iload_n 2, 1)) rfl ?_
      refine g_roload (j := 2) (a := 0) (by decide +kernel : decode prog_1_method_53_code 28 = .ok (.iaload, 1)) (by decide) rfl (by decide) ?_
      refine g_top (w := (-1)) (by decide) ?_
      refine g_istore_n (L' := [some (.int (nI 2)), some (.int (nI c)), some (.int (-1)), some (.int (nI 1))]) (by decide +kernel : decode prog_1_method_53_code 29 = .ok (.istore_n 2, 1)) (Nat.le_of_ble_eq_true rfl) rfl ?_
      refine g_iincN (n := 1) (L' := [some (.int (nI 2)), some (.int (nI c)), some (.int (-1)), some (.int (nI (1 + 1)))]) (by decide +kernel : decode prog_1_method_53_code 30 = .ok (.iinc 3 1, 3)) rfl (by decide) (Nat.le_of_ble_eq_true rfl) rfl ?_
      refine g_goto (tgt := 4) (by decide +kernel : decode prog_1_method_53_code 33 = .ok (.goto (-29), 3)) (by decide) ?_
      refine g_sub (L' := [some (.int (nI 2)), some (.int (nI c)), some (.int (-1)), some (.int (nI 2))]) ⟨rfl, rfl, rfl, rfl, trivial⟩ ?_
      refine g_iload_n (by decide +kernel : decode prog_1_method_53_code 4 = .ok (.iload_n 3, 1)) rfl ?_
      refine g_bipush (v := nI 6) (by decide +kernel : decode prog_1_method_53_code 5 = .ok (.bipush 6, 2)) (by decide) ?_
      refine g_icmp_geN (tgt := 36) (by decide +kernel : decode prog_1_method_53_code 7 = .ok (.if_icmp .ge 29, 3)) (by decide) (by decide) (by decide) (fun h => False.elim (by revert h; decide)) (fun _ => ?_)
      refine g_iload_n (by decide +kernel : decode prog_1_method_53_code 10 = .ok (.iload_n 2, 1)) rfl ?_
      refine g_callSI [.int (-1)] (by decide +kernel : decode prog_1_method_53_code 11 = .ok (.invokestatic 106, 3)) lk_LS_106 (k_isKind _ (-1)) rfl rfl (Nat.le_of_ble_eq_true rfl) (Nat.le_of_ble_eq_true rfl) (fun r11 s11 h11 => ?_)
      obtain ⟨e11, h11⟩ := h11
      have e11 := e11.symm; subst e11
      have w11 : r11 = nI 0 := by rcases h11 with ⟨z, j, _, hj, q⟩ | ⟨z, _⟩; exact absurd q (m1_ne (by omega)); exact z
      subst w11
      clear h11
      refine g_if_eqN (tgt := 36) (by decide +kernel : decode prog_1_method_53_code 14 = .ok (.ifCond .eq 22, 3)) (by decide) (by decide) (fun _ => ?_) (fun h => False.elim (by revert h; decide))
      refine g_iconst (v := nI 0) (by decide +kernel : decode prog_1_method_53_code 36 = .ok (.iconst 0, 1)) (by decide) ?_
      exact g_zret hR (by decide +kernel : decode prog_1_method_53_code 37 = .ok (.ireturn, 1)) rfl (by decide) ⟨_, rfl, ⟨rfl, Or.inr ⟨rfl, by unfold und; omega⟩⟩⟩
    · refine g_iconst (v := nI 1) (by decide +kernel : decode prog_1_method_53_code 22 = .ok (.iconst 1, 1)) (by decide) ?_
      exact g_zret hR (by decide +kernel : decode prog_1_method_53_code 23 = .ok (.ireturn, 1)) rfl (by decide) ⟨_, rfl, ⟨rfl, Or.inl ⟨rfl, by unfold und; omega⟩⟩⟩
  · refine g_iconst (v := nI 1) (by decide +kernel : decode prog_1_method_53_code 22 = .ok (.iconst 1, 1)) (by decide) ?_
    exact g_zret hR (by decide +kernel : decode prog_1_method_53_code 23 = .ok (.ireturn, 1)) rfl (by decide) ⟨_, rfl, ⟨rfl, Or.inl ⟨rfl, by unfold und; omega⟩⟩⟩
set_option maxRecDepth 20000 in
theorem k_isUnder3 (σ : Store) {c : Nat} (hc : c ≤ 5) : Ct ΛC mt_LS_isUnder 2 [.int (nI 3), .int (nI c)] σ (PB σ (und 3 c)) := by
  refine Ct.of (by decide) (Nat.le_of_ble_eq_true rfl) (fun X hR => ?_)
  show G (ΛC, mt_LS_isUnder, 2) X σ [some (.int (nI 3)), some (.int (nI c)), none, none] [] 0
  refine g_iload_n (by decide +kernel : decode prog_1_method_53_code 0 = .ok (.iload_n 0, 1)) rfl ?_
  refine g_istore_n (L' := [some (.int (nI 3)), some (.int (nI c)), some (.int (nI 3)), none]) (by decide +kernel : decode prog_1_method_53_code 1 = .ok (.istore_n 2, 1)) (Nat.le_of_ble_eq_true rfl) rfl ?_
  refine g_iconst (v := nI 0) (by decide +kernel : decode prog_1_method_53_code 2 = .ok (.iconst 0, 1)) (by decide) ?_
  refine g_istore_n (L' := [some (.int (nI 3)), some (.int (nI c)), some (.int (nI 3)), some (.int (nI 0))]) (by decide +kernel : decode prog_1_method_53_code 3 = .ok (.istore_n 3, 1)) (Nat.le_of_ble_eq_true rfl) rfl ?_
  refine g_iload_n (by decide +kernel : decode prog_1_method_53_code 4 = .ok (.iload_n 3, 1)) rfl ?_
  refine g_bipush (v := nI 6) (by decide +kernel : decode prog_1_method_53_code 5 = .ok (.bipush 6, 2)) (by decide) ?_
  refine g_icmp_geN (tgt := 36) (by decide +kernel : decode prog_1_method_53_code 7 = .ok (.if_icmp .ge 29, 3)) (by decide) (by decide) (by decide) (fun h => False.elim (by revert h; decide)) (fun _ => ?_)
  refine g_iload_n (by decide +kernel : decode prog_1_method_53_code 10 = .ok (.iload_n 2, 1)) rfl ?_
  refine g_callSI [.int (nI 3)] (by decide +kernel : decode prog_1_method_53_code 11 = .ok (.invokestatic 106, 3)) lk_LS_106 (k_isKind _ (nI 3)) rfl rfl (Nat.le_of_ble_eq_true rfl) (Nat.le_of_ble_eq_true rfl) (fun r11 s11 h11 => ?_)
  obtain ⟨e11, h11⟩ := h11
  have e11 := e11.symm; subst e11
  have w11 : r11 = nI 1 := by rcases h11 with ⟨z, _⟩ | ⟨z, q⟩; exact z; exact absurd ⟨3, by omega, by omega, rfl⟩ q
  subst w11
  clear h11
  refine g_if_eqN (tgt := 36) (by decide +kernel : decode prog_1_method_53_code 14 = .ok (.ifCond .eq 22, 3)) (by decide) (by decide) (fun h => False.elim (by revert h; decide)) (fun _ => ?_)
  refine g_iload_n (by decide +kernel : decode prog_1_method_53_code 17 = .ok (.iload_n 2, 1)) rfl ?_
  refine g_iload_n (by decide +kernel : decode prog_1_method_53_code 18 = .ok (.iload_n 1, 1)) rfl ?_
  refine g_icmp_neN (tgt := 24) (by decide +kernel : decode prog_1_method_53_code 19 = .ok (.if_icmp .ne 5, 3)) (by decide) (by decide) (by omega) (fun h19 => ?_) (fun h19 => ?_)
  · refine g_gets (j := 2) (by decide +kernel : decode prog_1_method_53_code 24 = .ok (.getstatic 312, 3)) (by decide) sl_LS_312 ?_
    refine g_iload_n (by decide +kernel : decode prog_1_method_53_code 27 = .ok (.iload_n 2, 1)) rfl ?_
    refine g_roload (j := 2) (a := 3) (by decide +kernel : decode prog_1_method_53_code 28 = .ok (.iaload, 1)) (by decide) rfl (by decide) ?_
    refine g_top (w := nI 1) (by decide) ?_
    refine g_istore_n (L' := [some (.int (nI 3)), some (.int (nI c)), some (.int (nI 1)), some (.int (nI 0))]) (by decide +kernel : decode prog_1_method_53_code 29 = .ok (.istore_n 2, 1)) (Nat.le_of_ble_eq_true rfl) rfl ?_
    refine g_iincN (n := 1) (L' := [some (.int (nI 3)), some (.int (nI c)), some (.int (nI 1)), some (.int (nI (0 + 1)))]) (by decide +kernel : decode prog_1_method_53_code 30 = .ok (.iinc 3 1, 3)) rfl (by decide) (Nat.le_of_ble_eq_true rfl) rfl ?_
    refine g_goto (tgt := 4) (by decide +kernel : decode prog_1_method_53_code 33 = .ok (.goto (-29), 3)) (by decide) ?_
    refine g_sub (L' := [some (.int (nI 3)), some (.int (nI c)), some (.int (nI 1)), some (.int (nI 1))]) ⟨rfl, rfl, rfl, rfl, trivial⟩ ?_
    refine g_iload_n (by decide +kernel : decode prog_1_method_53_code 4 = .ok (.iload_n 3, 1)) rfl ?_
    refine g_bipush (v := nI 6) (by decide +kernel : decode prog_1_method_53_code 5 = .ok (.bipush 6, 2)) (by decide) ?_
    refine g_icmp_geN (tgt := 36) (by decide +kernel : decode prog_1_method_53_code 7 = .ok (.if_icmp .ge 29, 3)) (by decide) (by decide) (by decide) (fun h => False.elim (by revert h; decide)) (fun _ => ?_)
    refine g_iload_n (by decide +kernel : decode prog_1_method_53_code 10 = .ok (.iload_n 2, 1)) rfl ?_
    refine g_callSI [.int (nI 1)] (by decide +kernel : decode prog_1_method_53_code 11 = .ok (.invokestatic 106, 3)) lk_LS_106 (k_isKind _ (nI 1)) rfl rfl (Nat.le_of_ble_eq_true rfl) (Nat.le_of_ble_eq_true rfl) (fun r11 s11 h11 => ?_)
    obtain ⟨e11, h11⟩ := h11
    have e11 := e11.symm; subst e11
    have w11 : r11 = nI 1 := by rcases h11 with ⟨z, _⟩ | ⟨z, q⟩; exact z; exact absurd ⟨1, by omega, by omega, rfl⟩ q
    subst w11
    clear h11
    refine g_if_eqN (tgt := 36) (by decide +kernel : decode prog_1_method_53_code 14 = .ok (.ifCond .eq 22, 3)) (by decide) (by decide) (fun h => False.elim (by revert h; decide)) (fun _ => ?_)
    refine g_iload_n (by decide +kernel : decode prog_1_method_53_code 17 = .ok (.iload_n 2, 1)) rfl ?_
    refine g_iload_n (by decide +kernel : decode prog_1_method_53_code 18 = .ok (.iload_n 1, 1)) rfl ?_
    refine g_icmp_neN (tgt := 24) (by decide +kernel : decode prog_1_method_53_code 19 = .ok (.if_icmp .ne 5, 3)) (by decide) (by decide) (by omega) (fun h19 => ?_) (fun h19 => ?_)
    · refine g_gets (j := 2) (by decide +kernel : decode prog_1_method_53_code 24 = .ok (.getstatic 312, 3)) (by decide) sl_LS_312 ?_
      refine g_iload_n (by decide +kernel : decode prog_1_method_53_code 27 = .ok (.iload_n 2, 1)) rfl ?_
      refine g_roload (j := 2) (a := 1) (by decide +kernel : decode prog_1_method_53_code 28 = .ok (.iaload, 1)) (by decide) rfl (by decide) ?_
      refine g_top (w := nI 0) (by decide) ?_
      refine g_istore_n (L' := [some (.int (nI 3)), some (.int (nI c)), some (.int (nI 0)), some (.int (nI 1))]) (by decide +kernel : decode prog_1_method_53_code 29 = .ok (.istore_n 2, 1)) (Nat.le_of_ble_eq_true rfl) rfl ?_
      refine g_iincN (n := 1) (L' := [some (.int (nI 3)), some (.int (nI c)), some (.int (nI 0)), some (.int (nI (1 + 1)))]) (by decide +kernel : decode prog_1_method_53_code 30 = .ok (.iinc 3 1, 3)) rfl (by decide) (Nat.le_of_ble_eq_true rfl) rfl ?_
      refine g_goto (tgt := 4) (by decide +kernel : decode prog_1_method_53_code 33 = .ok (.goto (-29), 3)) (by decide) ?_
      refine g_sub (L' := [some (.int (nI 3)), some (.int (nI c)), some (.int (nI 0)), some (.int (nI 2))]) ⟨rfl, rfl, rfl, rfl, trivial⟩ ?_
      refine g_iload_n (by decide +kernel : decode prog_1_method_53_code 4 = .ok (.iload_n 3, 1)) rfl ?_
      refine g_bipush (v := nI 6) (by decide +kernel : decode prog_1_method_53_code 5 = .ok (.bipush 6, 2)) (by decide) ?_
      refine g_icmp_geN (tgt := 36) (by decide +kernel : decode prog_1_method_53_code 7 = .ok (.if_icmp .ge 29, 3)) (by decide) (by decide) (by decide) (fun h => False.elim (by revert h; decide)) (fun _ => ?_)
      refine g_iload_n (by decide +kernel : decode prog_1_method_53_code 10 = .ok (.iload_n 2, 1)) rfl ?_
      refine g_callSI [.int (nI 0)] (by decide +kernel : decode prog_1_method_53_code 11 = .ok (.invokestatic 106, 3)) lk_LS_106 (k_isKind _ (nI 0)) rfl rfl (Nat.le_of_ble_eq_true rfl) (Nat.le_of_ble_eq_true rfl) (fun r11 s11 h11 => ?_)
      obtain ⟨e11, h11⟩ := h11
      have e11 := e11.symm; subst e11
      have w11 : r11 = nI 1 := by rcases h11 with ⟨z, _⟩ | ⟨z, q⟩; exact z; exact absurd ⟨0, by omega, by omega, rfl⟩ q
      subst w11
      clear h11
      refine g_if_eqN (tgt := 36) (by decide +kernel : decode prog_1_method_53_code 14 = .ok (.ifCond .eq 22, 3)) (by decide) (by decide) (fun h => False.elim (by revert h; decide)) (fun _ => ?_)
      refine g_iload_n (by decide +kernel : decode prog_1_method_53_code 17 = .ok (.iload_n 2, 1)) rfl ?_
      refine g_iload_n (by decide +kernel : decode prog_1_method_53_code 18 = .ok (.iload_n 1, 1)) rfl ?_
      refine g_icmp_neN (tgt := 24) (by decide +kernel : decode prog_1_method_53_code 19 = .ok (.if_icmp .ne 5, 3)) (by decide) (by decide) (by omega) (fun h19 => ?_) (fun h19 => ?_)
      · refine g_gets (j := 2) (by decide +kernel : decode prog_1_method_53_code 24 = .ok (.getstatic 312, 3)) (by decide) sl_LS_312 ?_
        refine g_iload_n (by decide +kernel : decode prog_1_method_53_code 27 = .ok (.iload_n 2, 1)) rfl ?_
        refine g_roload (j := 2) (a := 0) (by decide +kernel : decode prog_1_method_53_code 28 = .ok (.iaload, 1)) (by decide) rfl (by decide) ?_
        refine g_top (w := (-1)) (by decide) ?_
        refine g_istore_n (L' := [some (.int (nI 3)), some (.int (nI c)), some (.int (-1)), some (.int (nI 2))]) (by decide +kernel : decode prog_1_method_53_code 29 = .ok (.istore_n 2, 1)) (Nat.le_of_ble_eq_true rfl) rfl ?_
        refine g_iincN (n := 1) (L' := [some (.int (nI 3)), some (.int (nI c)), some (.int (-1)), some (.int (nI (2 + 1)))]) (by decide +kernel : decode prog_1_method_53_code 30 = .ok (.iinc 3 1, 3)) rfl (by decide) (Nat.le_of_ble_eq_true rfl) rfl ?_
        refine g_goto (tgt := 4) (by decide +kernel : decode prog_1_method_53_code 33 = .ok (.goto (-29), 3)) (by decide) ?_
        refine g_sub (L' := [some (.int (nI 3)), some (.int (nI c)), some (.int (-1)), some (.int (nI 3))]) ⟨rfl, rfl, rfl, rfl, trivial⟩ ?_
        refine g_iload_n (by decide +kernel : decode prog_1_method_53_code 4 = .ok (.iload_n 3, 1)) rfl ?_
        refine g_bipush (v := nI 6) (by decide +kernel : decode prog_1_method_53_code 5 = .ok (.bipush 6, 2)) (by decide) ?_
        refine g_icmp_geN (tgt := 36) (by decide +kernel : decode prog_1_method_53_code 7 = .ok (.if_icmp .ge 29, 3)) (by decide) (by decide) (by decide) (fun h => False.elim (by revert h; decide)) (fun _ => ?_)
        refine g_iload_n (by decide +kernel : decode prog_1_method_53_code 10 = .ok (.iload_n 2, 1)) rfl ?_
        refine g_callSI [.int (-1)] (by decide +kernel : decode prog_1_method_53_code 11 = .ok (.invokestatic 106, 3)) lk_LS_106 (k_isKind _ (-1)) rfl rfl (Nat.le_of_ble_eq_true rfl) (Nat.le_of_ble_eq_true rfl) (fun r11 s11 h11 => ?_)
        obtain ⟨e11, h11⟩ := h11
        have e11 := e11.symm; subst e11
        have w11 : r11 = nI 0 := by rcases h11 with ⟨z, j, _, hj, q⟩ | ⟨z, _⟩; exact absurd q (m1_ne (by omega)); exact z
        subst w11
        clear h11
        refine g_if_eqN (tgt := 36) (by decide +kernel : decode prog_1_method_53_code 14 = .ok (.ifCond .eq 22, 3)) (by decide) (by decide) (fun _ => ?_) (fun h => False.elim (by revert h; decide))
        refine g_iconst (v := nI 0) (by decide +kernel : decode prog_1_method_53_code 36 = .ok (.iconst 0, 1)) (by decide) ?_
        exact g_zret hR (by decide +kernel : decode prog_1_method_53_code 37 = .ok (.ireturn, 1)) rfl (by decide) ⟨_, rfl, ⟨rfl, Or.inr ⟨rfl, by unfold und; omega⟩⟩⟩
      · refine g_iconst (v := nI 1) (by decide +kernel : decode prog_1_method_53_code 22 = .ok (.iconst 1, 1)) (by decide) ?_
        exact g_zret hR (by decide +kernel : decode prog_1_method_53_code 23 = .ok (.ireturn, 1)) rfl (by decide) ⟨_, rfl, ⟨rfl, Or.inl ⟨rfl, by unfold und; omega⟩⟩⟩
    · refine g_iconst (v := nI 1) (by decide +kernel : decode prog_1_method_53_code 22 = .ok (.iconst 1, 1)) (by decide) ?_
      exact g_zret hR (by decide +kernel : decode prog_1_method_53_code 23 = .ok (.ireturn, 1)) rfl (by decide) ⟨_, rfl, ⟨rfl, Or.inl ⟨rfl, by unfold und; omega⟩⟩⟩
  · refine g_iconst (v := nI 1) (by decide +kernel : decode prog_1_method_53_code 22 = .ok (.iconst 1, 1)) (by decide) ?_
    exact g_zret hR (by decide +kernel : decode prog_1_method_53_code 23 = .ok (.ireturn, 1)) rfl (by decide) ⟨_, rfl, ⟨rfl, Or.inl ⟨rfl, by unfold und; omega⟩⟩⟩
set_option maxRecDepth 20000 in
theorem k_isUnder4 (σ : Store) {c : Nat} (hc : c ≤ 5) : Ct ΛC mt_LS_isUnder 2 [.int (nI 4), .int (nI c)] σ (PB σ (und 4 c)) := by
  refine Ct.of (by decide) (Nat.le_of_ble_eq_true rfl) (fun X hR => ?_)
  show G (ΛC, mt_LS_isUnder, 2) X σ [some (.int (nI 4)), some (.int (nI c)), none, none] [] 0
  refine g_iload_n (by decide +kernel : decode prog_1_method_53_code 0 = .ok (.iload_n 0, 1)) rfl ?_
  refine g_istore_n (L' := [some (.int (nI 4)), some (.int (nI c)), some (.int (nI 4)), none]) (by decide +kernel : decode prog_1_method_53_code 1 = .ok (.istore_n 2, 1)) (Nat.le_of_ble_eq_true rfl) rfl ?_
  refine g_iconst (v := nI 0) (by decide +kernel : decode prog_1_method_53_code 2 = .ok (.iconst 0, 1)) (by decide) ?_
  refine g_istore_n (L' := [some (.int (nI 4)), some (.int (nI c)), some (.int (nI 4)), some (.int (nI 0))]) (by decide +kernel : decode prog_1_method_53_code 3 = .ok (.istore_n 3, 1)) (Nat.le_of_ble_eq_true rfl) rfl ?_
  refine g_iload_n (by decide +kernel : decode prog_1_method_53_code 4 = .ok (.iload_n 3, 1)) rfl ?_
  refine g_bipush (v := nI 6) (by decide +kernel : decode prog_1_method_53_code 5 = .ok (.bipush 6, 2)) (by decide) ?_
  refine g_icmp_geN (tgt := 36) (by decide +kernel : decode prog_1_method_53_code 7 = .ok (.if_icmp .ge 29, 3)) (by decide) (by decide) (by decide) (fun h => False.elim (by revert h; decide)) (fun _ => ?_)
  refine g_iload_n (by decide +kernel : decode prog_1_method_53_code 10 = .ok (.iload_n 2, 1)) rfl ?_
  refine g_callSI [.int (nI 4)] (by decide +kernel : decode prog_1_method_53_code 11 = .ok (.invokestatic 106, 3)) lk_LS_106 (k_isKind _ (nI 4)) rfl rfl (Nat.le_of_ble_eq_true rfl) (Nat.le_of_ble_eq_true rfl) (fun r11 s11 h11 => ?_)
  obtain ⟨e11, h11⟩ := h11
  have e11 := e11.symm; subst e11
  have w11 : r11 = nI 1 := by rcases h11 with ⟨z, _⟩ | ⟨z, q⟩; exact z; exact absurd ⟨4, by omega, by omega, rfl⟩ q
  subst w11
  clear h11
  refine g_if_eqN (tgt := 36) (by decide +kernel : decode prog_1_method_53_code 14 = .ok (.ifCond .eq 22, 3)) (by decide) (by decide) (fun h => False.elim (by revert h; decide)) (fun _ => ?_)
  refine g_iload_n (by decide +kernel : decode prog_1_method_53_code 17 = .ok (.iload_n 2, 1)) rfl ?_
  refine g_iload_n (by decide +kernel : decode prog_1_method_53_code 18 = .ok (.iload_n 1, 1)) rfl ?_
  refine g_icmp_neN (tgt := 24) (by decide +kernel : decode prog_1_method_53_code 19 = .ok (.if_icmp .ne 5, 3)) (by decide) (by decide) (by omega) (fun h19 => ?_) (fun h19 => ?_)
  · refine g_gets (j := 2) (by decide +kernel : decode prog_1_method_53_code 24 = .ok (.getstatic 312, 3)) (by decide) sl_LS_312 ?_
    refine g_iload_n (by decide +kernel : decode prog_1_method_53_code 27 = .ok (.iload_n 2, 1)) rfl ?_
    refine g_roload (j := 2) (a := 4) (by decide +kernel : decode prog_1_method_53_code 28 = .ok (.iaload, 1)) (by decide) rfl (by decide) ?_
    refine g_top (w := nI 2) (by decide) ?_
    refine g_istore_n (L' := [some (.int (nI 4)), some (.int (nI c)), some (.int (nI 2)), some (.int (nI 0))]) (by decide +kernel : decode prog_1_method_53_code 29 = .ok (.istore_n 2, 1)) (Nat.le_of_ble_eq_true rfl) rfl ?_
    refine g_iincN (n := 1) (L' := [some (.int (nI 4)), some (.int (nI c)), some (.int (nI 2)), some (.int (nI (0 + 1)))]) (by decide +kernel : decode prog_1_method_53_code 30 = .ok (.iinc 3 1, 3)) rfl (by decide) (Nat.le_of_ble_eq_true rfl) rfl ?_
    refine g_goto (tgt := 4) (by decide +kernel : decode prog_1_method_53_code 33 = .ok (.goto (-29), 3)) (by decide) ?_
    refine g_sub (L' := [some (.int (nI 4)), some (.int (nI c)), some (.int (nI 2)), some (.int (nI 1))]) ⟨rfl, rfl, rfl, rfl, trivial⟩ ?_
    refine g_iload_n (by decide +kernel : decode prog_1_method_53_code 4 = .ok (.iload_n 3, 1)) rfl ?_
    refine g_bipush (v := nI 6) (by decide +kernel : decode prog_1_method_53_code 5 = .ok (.bipush 6, 2)) (by decide) ?_
    refine g_icmp_geN (tgt := 36) (by decide +kernel : decode prog_1_method_53_code 7 = .ok (.if_icmp .ge 29, 3)) (by decide) (by decide) (by decide) (fun h => False.elim (by revert h; decide)) (fun _ => ?_)
    refine g_iload_n (by decide +kernel : decode prog_1_method_53_code 10 = .ok (.iload_n 2, 1)) rfl ?_
    refine g_callSI [.int (nI 2)] (by decide +kernel : decode prog_1_method_53_code 11 = .ok (.invokestatic 106, 3)) lk_LS_106 (k_isKind _ (nI 2)) rfl rfl (Nat.le_of_ble_eq_true rfl) (Nat.le_of_ble_eq_true rfl) (fun r11 s11 h11 => ?_)
    obtain ⟨e11, h11⟩ := h11
    have e11 := e11.symm; subst e11
    have w11 : r11 = nI 1 := by rcases h11 with ⟨z, _⟩ | ⟨z, q⟩; exact z; exact absurd ⟨2, by omega, by omega, rfl⟩ q
    subst w11
    clear h11
    refine g_if_eqN (tgt := 36) (by decide +kernel : decode prog_1_method_53_code 14 = .ok (.ifCond .eq 22, 3)) (by decide) (by decide) (fun h => False.elim (by revert h; decide)) (fun _ => ?_)
    refine g_iload_n (by decide +kernel : decode prog_1_method_53_code 17 = .ok (.iload_n 2, 1)) rfl ?_
    refine g_iload_n (by decide +kernel : decode prog_1_method_53_code 18 = .ok (.iload_n 1, 1)) rfl ?_
    refine g_icmp_neN (tgt := 24) (by decide +kernel : decode prog_1_method_53_code 19 = .ok (.if_icmp .ne 5, 3)) (by decide) (by decide) (by omega) (fun h19 => ?_) (fun h19 => ?_)
    · refine g_gets (j := 2) (by decide +kernel : decode prog_1_method_53_code 24 = .ok (.getstatic 312, 3)) (by decide) sl_LS_312 ?_
      refine g_iload_n (by decide +kernel : decode prog_1_method_53_code 27 = .ok (.iload_n 2, 1)) rfl ?_
      refine g_roload (j := 2) (a := 2) (by decide +kernel : decode prog_1_method_53_code 28 = .ok (.iaload, 1)) (by decide) rfl (by decide) ?_
      refine g_top (w := nI 0) (by decide) ?_
      refine g_istore_n (L' := [some (.int (nI 4)), some (.int (nI c)), some (.int (nI 0)), some (.int (nI 1))]) (by decide +kernel : decode prog_1_method_53_code 29 = .ok (.istore_n 2, 1)) (Nat.le_of_ble_eq_true rfl) rfl ?_
      refine g_iincN (n := 1) (L' := [some (.int (nI 4)), some (.int (nI c)), some (.int (nI 0)), some (.int (nI (1 + 1)))]) (by decide +kernel : decode prog_1_method_53_code 30 = .ok (.iinc 3 1, 3)) rfl (by decide) (Nat.le_of_ble_eq_true rfl) rfl ?_
      refine g_goto (tgt := 4) (by decide +kernel : decode prog_1_method_53_code 33 = .ok (.goto (-29), 3)) (by decide) ?_
      refine g_sub (L' := [some (.int (nI 4)), some (.int (nI c)), some (.int (nI 0)), some (.int (nI 2))]) ⟨rfl, rfl, rfl, rfl, trivial⟩ ?_
      refine g_iload_n (by decide +kernel : decode prog_1_method_53_code 4 = .ok (.iload_n 3, 1)) rfl ?_
      refine g_bipush (v := nI 6) (by decide +kernel : decode prog_1_method_53_code 5 = .ok (.bipush 6, 2)) (by decide) ?_
      refine g_icmp_geN (tgt := 36) (by decide +kernel : decode prog_1_method_53_code 7 = .ok (.if_icmp .ge 29, 3)) (by decide) (by decide) (by decide) (fun h => False.elim (by revert h; decide)) (fun _ => ?_)
      refine g_iload_n (by decide +kernel : decode prog_1_method_53_code 10 = .ok (.iload_n 2, 1)) rfl ?_
      refine g_callSI [.int (nI 0)] (by decide +kernel : decode prog_1_method_53_code 11 = .ok (.invokestatic 106, 3)) lk_LS_106 (k_isKind _ (nI 0)) rfl rfl (Nat.le_of_ble_eq_true rfl) (Nat.le_of_ble_eq_true rfl) (fun r11 s11 h11 => ?_)
      obtain ⟨e11, h11⟩ := h11
      have e11 := e11.symm; subst e11
      have w11 : r11 = nI 1 := by rcases h11 with ⟨z, _⟩ | ⟨z, q⟩; exact z; exact absurd ⟨0, by omega, by omega, rfl⟩ q
      subst w11
      clear h11
      refine g_if_eqN (tgt := 36) (by decide +kernel : decode prog_1_method_53_code 14 = .ok (.ifCond .eq 22, 3)) (by decide) (by decide) (fun h => False.elim (by revert h; decide)) (fun _ => ?_)
      refine g_iload_n (by decide +kernel : decode prog_1_method_53_code 17 = .ok (.iload_n 2, 1)) rfl ?_
      refine g_iload_n (by decide +kernel : decode prog_1_method_53_code 18 = .ok (.iload_n 1, 1)) rfl ?_
      refine g_icmp_neN (tgt := 24) (by decide +kernel : decode prog_1_method_53_code 19 = .ok (.if_icmp .ne 5, 3)) (by decide) (by decide) (by omega) (fun h19 => ?_) (fun h19 => ?_)
      · refine g_gets (j := 2) (by decide +kernel : decode prog_1_method_53_code 24 = .ok (.getstatic 312, 3)) (by decide) sl_LS_312 ?_
        refine g_iload_n (by decide +kernel : decode prog_1_method_53_code 27 = .ok (.iload_n 2, 1)) rfl ?_
        refine g_roload (j := 2) (a := 0) (by decide +kernel : decode prog_1_method_53_code 28 = .ok (.iaload, 1)) (by decide) rfl (by decide) ?_
        refine g_top (w := (-1)) (by decide) ?_
        refine g_istore_n (L' := [some (.int (nI 4)), some (.int (nI c)), some (.int (-1)), some (.int (nI 2))]) (by decide +kernel : decode prog_1_method_53_code 29 = .ok (.istore_n 2, 1)) (Nat.le_of_ble_eq_true rfl) rfl ?_
        refine g_iincN (n := 1) (L' := [some (.int (nI 4)), some (.int (nI c)), some (.int (-1)), some (.int (nI (2 + 1)))]) (by decide +kernel : decode prog_1_method_53_code 30 = .ok (.iinc 3 1, 3)) rfl (by decide) (Nat.le_of_ble_eq_true rfl) rfl ?_
        refine g_goto (tgt := 4) (by decide +kernel : decode prog_1_method_53_code 33 = .ok (.goto (-29), 3)) (by decide) ?_
        refine g_sub (L' := [some (.int (nI 4)), some (.int (nI c)), some (.int (-1)), some (.int (nI 3))]) ⟨rfl, rfl, rfl, rfl, trivial⟩ ?_
        refine g_iload_n (by decide +kernel : decode prog_1_method_53_code 4 = .ok (.iload_n 3, 1)) rfl ?_
        refine g_bipush (v := nI 6) (by decide +kernel : decode prog_1_method_53_code 5 = .ok (.bipush 6, 2)) (by decide) ?_
        refine g_icmp_geN (tgt := 36) (by decide +kernel : decode prog_1_method_53_code 7 = .ok (.if_icmp .ge 29, 3)) (by decide) (by decide) (by decide) (fun h => False.elim (by revert h; decide)) (fun _ => ?_)
        refine g_iload_n (by decide +kernel : decode prog_1_method_53_code 10 = .ok (.iload_n 2, 1)) rfl ?_
        refine g_callSI [.int (-1)] (by decide +kernel : decode prog_1_method_53_code 11 = .ok (.invokestatic 106, 3)) lk_LS_106 (k_isKind _ (-1)) rfl rfl (Nat.le_of_ble_eq_true rfl) (Nat.le_of_ble_eq_true rfl) (fun r11 s11 h11 => ?_)
        obtain ⟨e11, h11⟩ := h11
        have e11 := e11.symm; subst e11
        have w11 : r11 = nI 0 := by rcases h11 with ⟨z, j, _, hj, q⟩ | ⟨z, _⟩; exact absurd q (m1_ne (by omega)); exact z
        subst w11
        clear h11
        refine g_if_eqN (tgt := 36) (by decide +kernel : decode prog_1_method_53_code 14 = .ok (.ifCond .eq 22, 3)) (by decide) (by decide) (fun _ => ?_) (fun h => False.elim (by revert h; decide))
        refine g_iconst (v := nI 0) (by decide +kernel : decode prog_1_method_53_code 36 = .ok (.iconst 0, 1)) (by decide) ?_
        exact g_zret hR (by decide +kernel : decode prog_1_method_53_code 37 = .ok (.ireturn, 1)) rfl (by decide) ⟨_, rfl, ⟨rfl, Or.inr ⟨rfl, by unfold und; omega⟩⟩⟩
      · refine g_iconst (v := nI 1) (by decide +kernel : decode prog_1_method_53_code 22 = .ok (.iconst 1, 1)) (by decide) ?_
        exact g_zret hR (by decide +kernel : decode prog_1_method_53_code 23 = .ok (.ireturn, 1)) rfl (by decide) ⟨_, rfl, ⟨rfl, Or.inl ⟨rfl, by unfold und; omega⟩⟩⟩
    · refine g_iconst (v := nI 1) (by decide +kernel : decode prog_1_method_53_code 22 = .ok (.iconst 1, 1)) (by decide) ?_
      exact g_zret hR (by decide +kernel : decode prog_1_method_53_code 23 = .ok (.ireturn, 1)) rfl (by decide) ⟨_, rfl, ⟨rfl, Or.inl ⟨rfl, by unfold und; omega⟩⟩⟩
  · refine g_iconst (v := nI 1) (by decide +kernel : decode prog_1_method_53_code 22 = .ok (.iconst 1, 1)) (by decide) ?_
    exact g_zret hR (by decide +kernel : decode prog_1_method_53_code 23 = .ok (.ireturn, 1)) rfl (by decide) ⟨_, rfl, ⟨rfl, Or.inl ⟨rfl, by unfold und; omega⟩⟩⟩
set_option maxRecDepth 20000 in
theorem k_isUnder5 (σ : Store) {c : Nat} (hc : c ≤ 5) : Ct ΛC mt_LS_isUnder 2 [.int (nI 5), .int (nI c)] σ (PB σ (und 5 c)) := by
  refine Ct.of (by decide) (Nat.le_of_ble_eq_true rfl) (fun X hR => ?_)
  show G (ΛC, mt_LS_isUnder, 2) X σ [some (.int (nI 5)), some (.int (nI c)), none, none] [] 0
  refine g_iload_n (by decide +kernel : decode prog_1_method_53_code 0 = .ok (.iload_n 0, 1)) rfl ?_
  refine g_istore_n (L' := [some (.int (nI 5)), some (.int (nI c)), some (.int (nI 5)), none]) (by decide +kernel : decode prog_1_method_53_code 1 = .ok (.istore_n 2, 1)) (Nat.le_of_ble_eq_true rfl) rfl ?_
  refine g_iconst (v := nI 0) (by decide +kernel : decode prog_1_method_53_code 2 = .ok (.iconst 0, 1)) (by decide) ?_
  refine g_istore_n (L' := [some (.int (nI 5)), some (.int (nI c)), some (.int (nI 5)), some (.int (nI 0))]) (by decide +kernel : decode prog_1_method_53_code 3 = .ok (.istore_n 3, 1)) (Nat.le_of_ble_eq_true rfl) rfl ?_
  refine g_iload_n (by decide +kernel : decode prog_1_method_53_code 4 = .ok (.iload_n 3, 1)) rfl ?_
  refine g_bipush (v := nI 6) (by decide +kernel : decode prog_1_method_53_code 5 = .ok (.bipush 6, 2)) (by decide) ?_
  refine g_icmp_geN (tgt := 36) (by decide +kernel : decode prog_1_method_53_code 7 = .ok (.if_icmp .ge 29, 3)) (by decide) (by decide) (by decide) (fun h => False.elim (by revert h; decide)) (fun _ => ?_)
  refine g_iload_n (by decide +kernel : decode prog_1_method_53_code 10 = .ok (.iload_n 2, 1)) rfl ?_
  refine g_callSI [.int (nI 5)] (by decide +kernel : decode prog_1_method_53_code 11 = .ok (.invokestatic 106, 3)) lk_LS_106 (k_isKind _ (nI 5)) rfl rfl (Nat.le_of_ble_eq_true rfl) (Nat.le_of_ble_eq_true rfl) (fun r11 s11 h11 => ?_)
  obtain ⟨e11, h11⟩ := h11
  have e11 := e11.symm; subst e11
  have w11 : r11 = nI 1 := by rcases h11 with ⟨z, _⟩ | ⟨z, q⟩; exact z; exact absurd ⟨5, by omega, by omega, rfl⟩ q
  subst w11
  clear h11
  refine g_if_eqN (tgt := 36) (by decide +kernel : decode prog_1_method_53_code 14 = .ok (.ifCond .eq 22, 3)) (by decide) (by decide) (fun h => False.elim (by revert h; decide)) (fun _ => ?_)
  refine g_iload_n (by decide +kernel : decode prog_1_method_53_code 17 = .ok (.iload_n 2, 1)) rfl ?_
  refine g_iload_n (by decide +kernel : decode prog_1_method_53_code 18 = .ok (.iload_n 1, 1)) rfl ?_
  refine g_icmp_neN (tgt := 24) (by decide +kernel : decode prog_1_method_53_code 19 = .ok (.if_icmp .ne 5, 3)) (by decide) (by decide) (by omega) (fun h19 => ?_) (fun h19 => ?_)
  · refine g_gets (j := 2) (by decide +kernel : decode prog_1_method_53_code 24 = .ok (.getstatic 312, 3)) (by decide) sl_LS_312 ?_
    refine g_iload_n (by decide +kernel : decode prog_1_method_53_code 27 = .ok (.iload_n 2, 1)) rfl ?_
    refine g_roload (j := 2) (a := 5) (by decide +kernel : decode prog_1_method_53_code 28 = .ok (.iaload, 1)) (by decide) rfl (by decide) ?_
    refine g_top (w := nI 0) (by decide) ?_
    refine g_istore_n (L' := [some (.int (nI 5)), some (.int (nI c)), some (.int (nI 0)), some (.int (nI 0))]) (by decide +kernel : decode prog_1_method_53_code 29 = .ok (.istore_n 2, 1)) (Nat.le_of_ble_eq_true rfl) rfl ?_
    refine g_iincN (n := 1) (L' := [some (.int (nI 5)), some (.int (nI c)), some (.int (nI 0)), some (.int (nI (0 + 1)))]) (by decide +kernel : decode prog_1_method_53_code 30 = .ok (.iinc 3 1, 3)) rfl (by decide) (Nat.le_of_ble_eq_true rfl) rfl ?_
    refine g_goto (tgt := 4) (by decide +kernel : decode prog_1_method_53_code 33 = .ok (.goto (-29), 3)) (by decide) ?_
    refine g_sub (L' := [some (.int (nI 5)), some (.int (nI c)), some (.int (nI 0)), some (.int (nI 1))]) ⟨rfl, rfl, rfl, rfl, trivial⟩ ?_
    refine g_iload_n (by decide +kernel : decode prog_1_method_53_code 4 = .ok (.iload_n 3, 1)) rfl ?_
    refine g_bipush (v := nI 6) (by decide +kernel : decode prog_1_method_53_code 5 = .ok (.bipush 6, 2)) (by decide) ?_
    refine g_icmp_geN (tgt := 36) (by decide +kernel : decode prog_1_method_53_code 7 = .ok (.if_icmp .ge 29, 3)) (by decide) (by decide) (by decide) (fun h => False.elim (by revert h; decide)) (fun _ => ?_)
    refine g_iload_n (by decide +kernel : decode prog_1_method_53_code 10 = .ok (.iload_n 2, 1)) rfl ?_
    refine g_callSI [.int (nI 0)] (by decide +kernel : decode prog_1_method_53_code 11 = .ok (.invokestatic 106, 3)) lk_LS_106 (k_isKind _ (nI 0)) rfl rfl (Nat.le_of_ble_eq_true rfl) (Nat.le_of_ble_eq_true rfl) (fun r11 s11 h11 => ?_)
    obtain ⟨e11, h11⟩ := h11
    have e11 := e11.symm; subst e11
    have w11 : r11 = nI 1 := by rcases h11 with ⟨z, _⟩ | ⟨z, q⟩; exact z; exact absurd ⟨0, by omega, by omega, rfl⟩ q
    subst w11
    clear h11
    refine g_if_eqN (tgt := 36) (by decide +kernel : decode prog_1_method_53_code 14 = .ok (.ifCond .eq 22, 3)) (by decide) (by decide) (fun h => False.elim (by revert h; decide)) (fun _ => ?_)
    refine g_iload_n (by decide +kernel : decode prog_1_method_53_code 17 = .ok (.iload_n 2, 1)) rfl ?_
    refine g_iload_n (by decide +kernel : decode prog_1_method_53_code 18 = .ok (.iload_n 1, 1)) rfl ?_
    refine g_icmp_neN (tgt := 24) (by decide +kernel : decode prog_1_method_53_code 19 = .ok (.if_icmp .ne 5, 3)) (by decide) (by decide) (by omega) (fun h19 => ?_) (fun h19 => ?_)
    · refine g_gets (j := 2) (by decide +kernel : decode prog_1_method_53_code 24 = .ok (.getstatic 312, 3)) (by decide) sl_LS_312 ?_
      refine g_iload_n (by decide +kernel : decode prog_1_method_53_code 27 = .ok (.iload_n 2, 1)) rfl ?_
      refine g_roload (j := 2) (a := 0) (by decide +kernel : decode prog_1_method_53_code 28 = .ok (.iaload, 1)) (by decide) rfl (by decide) ?_
      refine g_top (w := (-1)) (by decide) ?_
      refine g_istore_n (L' := [some (.int (nI 5)), some (.int (nI c)), some (.int (-1)), some (.int (nI 1))]) (by decide +kernel : decode prog_1_method_53_code 29 = .ok (.istore_n 2, 1)) (Nat.le_of_ble_eq_true rfl) rfl ?_
      refine g_iincN (n := 1) (L' := [some (.int (nI 5)), some (.int (nI c)), some (.int (-1)), some (.int (nI (1 + 1)))]) (by decide +kernel : decode prog_1_method_53_code 30 = .ok (.iinc 3 1, 3)) rfl (by decide) (Nat.le_of_ble_eq_true rfl) rfl ?_
      refine g_goto (tgt := 4) (by decide +kernel : decode prog_1_method_53_code 33 = .ok (.goto (-29), 3)) (by decide) ?_
      refine g_sub (L' := [some (.int (nI 5)), some (.int (nI c)), some (.int (-1)), some (.int (nI 2))]) ⟨rfl, rfl, rfl, rfl, trivial⟩ ?_
      refine g_iload_n (by decide +kernel : decode prog_1_method_53_code 4 = .ok (.iload_n 3, 1)) rfl ?_
      refine g_bipush (v := nI 6) (by decide +kernel : decode prog_1_method_53_code 5 = .ok (.bipush 6, 2)) (by decide) ?_
      refine g_icmp_geN (tgt := 36) (by decide +kernel : decode prog_1_method_53_code 7 = .ok (.if_icmp .ge 29, 3)) (by decide) (by decide) (by decide) (fun h => False.elim (by revert h; decide)) (fun _ => ?_)
      refine g_iload_n (by decide +kernel : decode prog_1_method_53_code 10 = .ok (.iload_n 2, 1)) rfl ?_
      refine g_callSI [.int (-1)] (by decide +kernel : decode prog_1_method_53_code 11 = .ok (.invokestatic 106, 3)) lk_LS_106 (k_isKind _ (-1)) rfl rfl (Nat.le_of_ble_eq_true rfl) (Nat.le_of_ble_eq_true rfl) (fun r11 s11 h11 => ?_)
      obtain ⟨e11, h11⟩ := h11
      have e11 := e11.symm; subst e11
      have w11 : r11 = nI 0 := by rcases h11 with ⟨z, j, _, hj, q⟩ | ⟨z, _⟩; exact absurd q (m1_ne (by omega)); exact z
      subst w11
      clear h11
      refine g_if_eqN (tgt := 36) (by decide +kernel : decode prog_1_method_53_code 14 = .ok (.ifCond .eq 22, 3)) (by decide) (by decide) (fun _ => ?_) (fun h => False.elim (by revert h; decide))
      refine g_iconst (v := nI 0) (by decide +kernel : decode prog_1_method_53_code 36 = .ok (.iconst 0, 1)) (by decide) ?_
      exact g_zret hR (by decide +kernel : decode prog_1_method_53_code 37 = .ok (.ireturn, 1)) rfl (by decide) ⟨_, rfl, ⟨rfl, Or.inr ⟨rfl, by unfold und; omega⟩⟩⟩
    · refine g_iconst (v := nI 1) (by decide +kernel : decode prog_1_method_53_code 22 = .ok (.iconst 1, 1)) (by decide) ?_
      exact g_zret hR (by decide +kernel : decode prog_1_method_53_code 23 = .ok (.ireturn, 1)) rfl (by decide) ⟨_, rfl, ⟨rfl, Or.inl ⟨rfl, by unfold und; omega⟩⟩⟩
  · refine g_iconst (v := nI 1) (by decide +kernel : decode prog_1_method_53_code 22 = .ok (.iconst 1, 1)) (by decide) ?_
    exact g_zret hR (by decide +kernel : decode prog_1_method_53_code 23 = .ok (.ireturn, 1)) rfl (by decide) ⟨_, rfl, ⟨rfl, Or.inl ⟨rfl, by unfold und; omega⟩⟩⟩
theorem k_isUnder (σ : Store) {k c : Nat} (hk : k ≤ 5) (hc : c ≤ 5) : Ct ΛC mt_LS_isUnder 2 [.int (nI k), .int (nI c)] σ (PB σ (und k c)) := by
  rcases (show k = 0 ∨ k = 1 ∨ k = 2 ∨ k = 3 ∨ k = 4 ∨ k = 5 by omega) with rfl | rfl | rfl | rfl | rfl | rfl
  · exact k_isUnder0 σ hc
  · exact k_isUnder1 σ hc
  · exact k_isUnder2 σ hc
  · exact k_isUnder3 σ hc
  · exact k_isUnder4 σ hc
  · exact k_isUnder5 σ hc
theorem tk_no {τ : Store} {f : Row} {x y : Int32} {t : Nat} (h : rg 0 3 x = some t) (n1 : ¬ ∃ j, 10 ≤ j ∧ j ≤ 13 ∧ y = nI j) (n2 : ¬ ∃ j, 0 ≤ j ∧ j ≤ 5 ∧ y = nI j) : -1 = takenV τ f x y := by
  unfold takenV
  rw [h]
  dsimp only
  by_cases e : ∃ j, 0 ≤ j ∧ j ≤ 13 ∧ y = nI j
  · obtain ⟨j, h1, h2, rfl⟩ := e
    rw [rg_of h1 h2]
    dsimp only
    rw [if_pos]
    constructor
    · by_cases q : 6 ≤ j
      · exact q
      · exact absurd ⟨j, h1, by omega, rfl⟩ n2
    · by_cases q : j ≤ 9
      · exact q
      · exact absurd ⟨j, by omega, h2, rfl⟩ n1
  · rw [rg_none e]
theorem sub10 {a s : Nat} (ha : a ≤ 13) (hs : s ≤ 3) : nI a - nI 10 = nI s ↔ a = s + 10 := by
  constructor
  · intro q
    have h1 := congrArg Int32.toInt q
    rw [pk_sub_toInt (by omega) (by decide), nI_toInt (by omega)] at h1
    omega
  · rintro rfl
    rw [pk_sub (by omega)]
    congr 1
theorem tk_c {σ : Store} : True := trivial
set_option maxRecDepth 20000 in
theorem k_taken {σ τ : Store} {f : Row} (h : RX σ τ f) (x y : Int32) : Ct ΛC mt_LS_taken 3 [.ref 0, .int x, .int y] σ (cP τ (takenV τ f x y) f) := by
  refine Ct.of (by decide) (Nat.le_of_ble_eq_true rfl) (fun X hR => ?_)
  show G (ΛC, mt_LS_taken, 3) X σ [some (.ref 0), some (.int x), some (.int y), none, none] [] 0
  have hn8 := h.n8
  refine g_iload_n (by decide +kernel : decode prog_1_method_52_code 0 = .ok (.iload_n 2, 1)) rfl ?_
  refine g_bipush (v := nI 10) (by decide +kernel : decode prog_1_method_52_code 1 = .ok (.bipush 10, 2)) (by decide) ?_
  refine g_bipush (v := nI 13) (by decide +kernel : decode prog_1_method_52_code 3 = .ok (.bipush 13, 2)) (by decide) ?_
  refine g_callSI [.int y, .int (nI 10), .int (nI 13)] (by decide +kernel : decode prog_1_method_52_code 5 = .ok (.invokestatic 62, 3)) lk_LS_62 (k_within _ y 10 13) rfl rfl (Nat.le_of_ble_eq_true rfl) (Nat.le_of_ble_eq_true rfl) (fun r5 s5 h5 => ?_)
  rcases h5 with ⟨e5, ⟨rfl, a, ha5, hb5, rfl⟩ | ⟨rfl, n5⟩⟩
  · have e5 := e5.symm; subst e5
    refine g_istore_n (L' := [some (.ref 0), some (.int x), some (.int (nI a)), some (.int (nI 1)), none]) (by decide +kernel : decode prog_1_method_52_code 8 = .ok (.istore_n 3, 1)) (Nat.le_of_ble_eq_true rfl) rfl ?_
    refine g_iload_n (by decide +kernel : decode prog_1_method_52_code 9 = .ok (.iload_n 1, 1)) rfl ?_
    refine g_callSI [.int x] (by decide +kernel : decode prog_1_method_52_code 10 = .ok (.invokestatic 285, 3)) lk_LS_285 (k_isShelf _ x) rfl rfl (Nat.le_of_ble_eq_true rfl) (Nat.le_of_ble_eq_true rfl) (fun r10 s10 h10 => ?_)
    rcases h10 with ⟨e10, ⟨rfl, t, ha10, hb10, rfl⟩ | ⟨rfl, n10⟩⟩
    · have e10 := e10.symm; subst e10
      refine g_if_eqN (tgt := 27) (by decide +kernel : decode prog_1_method_52_code 13 = .ok (.ifCond .eq 14, 3)) (by decide) (by decide) (fun h => False.elim (by revert h; decide)) (fun _ => ?_)
      refine g_iload_n (by decide +kernel : decode prog_1_method_52_code 16 = .ok (.iload_n 3, 1)) rfl ?_
      refine g_if_neN (tgt := 29) (by decide +kernel : decode prog_1_method_52_code 17 = .ok (.ifCond .ne 12, 3)) (by decide) (by decide) (fun _ => ?_) (fun h => False.elim (by revert h; decide))
      rcases h.2.2.2.2.2.1 t (by omega) with ⟨e11, eu, ev⟩ | ⟨e11, ev, j, hj, e12, eu⟩ | ⟨e11, eu, sk, sn, hs, hn, e12, e13, ev, ew⟩
      · have ehd : hd τ f t = 0 := hd_m e11 (Or.inl rfl)
        refine g_aload_n (by decide +kernel : decode prog_1_method_52_code 29 = .ok (.aload_n 0, 1)) rfl ?_
        refine g_getR (by decide +kernel : decode prog_1_method_52_code 30 = .ok (.getfield 51, 3)) fl_LS_51 rfl rfl ?_
        refine g_iload_n (by decide +kernel : decode prog_1_method_52_code 33 = .ok (.iload_n 1, 1)) rfl ?_
        refine g_callVI [.int (nI t)] (by decide +kernel : decode prog_1_method_52_code 34 = .ok (.invokevirtual 297, 3)) lk_LS_297 (c_holdsRow _ (t := t) (by omega)) rfl rfl rfl rfl (Nat.le_of_ble_eq_true rfl) (Nat.le_of_ble_eq_true rfl) (fun r34 s34 h34 => ?_)
        obtain ⟨e34, h34⟩ := h34
        have e34 := e34.symm; subst e34
        have w34 : r34 = nI 0 := by rcases h34 with ⟨z, q⟩ | ⟨z, q⟩; exact absurd ev q; exact z
        subst w34
        refine g_if_eqN (tgt := 71) (by decide +kernel : decode prog_1_method_52_code 37 = .ok (.ifCond .eq 34, 3)) (by decide) (by decide) (fun _ => ?_) (fun h => False.elim (by revert h; decide))
        refine g_aload_n (by decide +kernel : decode prog_1_method_52_code 71 = .ok (.aload_n 0, 1)) rfl ?_
        refine g_getR (by decide +kernel : decode prog_1_method_52_code 72 = .ok (.getfield 51, 3)) fl_LS_51 rfl rfl ?_
        refine g_getR (by decide +kernel : decode prog_1_method_52_code 75 = .ok (.getfield 306, 3)) fl_LS_306 rfl rfl ?_
        refine g_iload_n (by decide +kernel : decode prog_1_method_52_code 78 = .ok (.iload_n 1, 1)) rfl ?_
        refine g_iaload (a := t) (by decide +kernel : decode prog_1_method_52_code 79 = .ok (.iaload, 1)) rfl rfl (by omega) (by decide) ?_
        refine g_top (w := (-1)) (eu) ?_
        refine g_istore (L' := [some (.ref 0), some (.int (nI t)), some (.int (nI a)), some (.int (nI 1)), some (.int (-1))]) (by decide +kernel : decode prog_1_method_52_code 80 = .ok (.istore 4, 2)) (Nat.le_of_ble_eq_true rfl) rfl ?_
        refine g_aload_n (by decide +kernel : decode prog_1_method_52_code 82 = .ok (.aload_n 0, 1)) rfl ?_
        refine g_getR (by decide +kernel : decode prog_1_method_52_code 83 = .ok (.getfield 20, 3)) fl_LS_20 rfl rfl ?_
        refine g_iload (by decide +kernel : decode prog_1_method_52_code 86 = .ok (.iload 4, 2)) rfl ?_
        refine g_callVI [.int (-1)] (by decide +kernel : decode prog_1_method_52_code 88 = .ok (.invokevirtual 116, 3)) lk_LS_116 (n_has h.n (-1)) rfl rfl rfl rfl (Nat.le_of_ble_eq_true rfl) (Nat.le_of_ble_eq_true rfl) (fun r88 s88 h88 => ?_)
        obtain ⟨e88, h88⟩ := h88
        have e88 := e88.symm; subst e88
        have w88 : r88 = nI 0 := by rcases h88 with ⟨z, i, hi, q⟩ | ⟨z, _⟩; exact absurd q (m1_ne (by omega)); exact z
        subst w88
        refine g_if_neN (tgt := 97) (by decide +kernel : decode prog_1_method_52_code 91 = .ok (.ifCond .ne 6, 3)) (by decide) (by decide) (fun h => False.elim (by revert h; decide)) (fun _ => ?_)
        refine g_bipush (v := (-11)) (by decide +kernel : decode prog_1_method_52_code 94 = .ok (.bipush (-11), 2)) (by decide) ?_
        exact g_iret hR (by decide +kernel : decode prog_1_method_52_code 96 = .ok (.ireturn, 1)) rfl ⟨_, rfl, ⟨by simp only [takenV, rg_of ha10 hb10, rg_of (a := 0) (b := 13) (Nat.zero_le a) hb5]; rw [if_neg (by omega), if_pos ehd], h⟩⟩
      · have etj : tn (τ 12 t) = j := by rw [e12, tn_nI (by omega)]
        refine g_aload_n (by decide +kernel : decode prog_1_method_52_code 29 = .ok (.aload_n 0, 1)) rfl ?_
        refine g_getR (by decide +kernel : decode prog_1_method_52_code 30 = .ok (.getfield 51, 3)) fl_LS_51 rfl rfl ?_
        refine g_iload_n (by decide +kernel : decode prog_1_method_52_code 33 = .ok (.iload_n 1, 1)) rfl ?_
        refine g_callVI [.int (nI t)] (by decide +kernel : decode prog_1_method_52_code 34 = .ok (.invokevirtual 297, 3)) lk_LS_297 (c_holdsRow _ (t := t) (by omega)) rfl rfl rfl rfl (Nat.le_of_ble_eq_true rfl) (Nat.le_of_ble_eq_true rfl) (fun r34 s34 h34 => ?_)
        obtain ⟨e34, h34⟩ := h34
        have e34 := e34.symm; subst e34
        have w34 : r34 = nI 0 := by rcases h34 with ⟨z, q⟩ | ⟨z, q⟩; exact absurd ev q; exact z
        subst w34
        refine g_if_eqN (tgt := 71) (by decide +kernel : decode prog_1_method_52_code 37 = .ok (.ifCond .eq 34, 3)) (by decide) (by decide) (fun _ => ?_) (fun h => False.elim (by revert h; decide))
        refine g_aload_n (by decide +kernel : decode prog_1_method_52_code 71 = .ok (.aload_n 0, 1)) rfl ?_
        refine g_getR (by decide +kernel : decode prog_1_method_52_code 72 = .ok (.getfield 51, 3)) fl_LS_51 rfl rfl ?_
        refine g_getR (by decide +kernel : decode prog_1_method_52_code 75 = .ok (.getfield 306, 3)) fl_LS_306 rfl rfl ?_
        refine g_iload_n (by decide +kernel : decode prog_1_method_52_code 78 = .ok (.iload_n 1, 1)) rfl ?_
        refine g_iaload (a := t) (by decide +kernel : decode prog_1_method_52_code 79 = .ok (.iaload, 1)) rfl rfl (by omega) (by decide) ?_
        refine g_top (w := nI j) (eu) ?_
        refine g_istore (L' := [some (.ref 0), some (.int (nI t)), some (.int (nI a)), some (.int (nI 1)), some (.int (nI j))]) (by decide +kernel : decode prog_1_method_52_code 80 = .ok (.istore 4, 2)) (Nat.le_of_ble_eq_true rfl) rfl ?_
        refine g_aload_n (by decide +kernel : decode prog_1_method_52_code 82 = .ok (.aload_n 0, 1)) rfl ?_
        refine g_getR (by decide +kernel : decode prog_1_method_52_code 83 = .ok (.getfield 20, 3)) fl_LS_20 rfl rfl ?_
        refine g_iload (by decide +kernel : decode prog_1_method_52_code 86 = .ok (.iload 4, 2)) rfl ?_
        refine g_callVI [.int (nI j)] (by decide +kernel : decode prog_1_method_52_code 88 = .ok (.invokevirtual 116, 3)) lk_LS_116 (n_has h.n (nI j)) rfl rfl rfl rfl (Nat.le_of_ble_eq_true rfl) (Nat.le_of_ble_eq_true rfl) (fun r88 s88 h88 => ?_)
        rcases h88 with ⟨e88, ⟨rfl, i, hi, q88⟩ | ⟨rfl, q88⟩⟩
        · have e88 := e88.symm; subst e88
          have hjn : j < nn f := by have := (nI_eq (by omega) (by omega)).mp q88; omega
          have ehd : hd τ f t = 1 := hd_1 h.i e11 hjn e12
          refine g_if_neN (tgt := 97) (by decide +kernel : decode prog_1_method_52_code 91 = .ok (.ifCond .ne 6, 3)) (by decide) (by decide) (fun _ => ?_) (fun h => False.elim (by revert h; decide))
          refine g_iload_n (by decide +kernel : decode prog_1_method_52_code 97 = .ok (.iload_n 3, 1)) rfl ?_
          refine g_if_neN (tgt := 123) (by decide +kernel : decode prog_1_method_52_code 98 = .ok (.ifCond .ne 25, 3)) (by decide) (by decide) (fun _ => ?_) (fun h => False.elim (by revert h; decide))
          refine g_bipush (v := (-13)) (by decide +kernel : decode prog_1_method_52_code 123 = .ok (.bipush (-13), 2)) (by decide) ?_
          exact g_iret hR (by decide +kernel : decode prog_1_method_52_code 125 = .ok (.ireturn, 1)) rfl ⟨_, rfl, ⟨by simp only [takenV, rg_of ha10 hb10, rg_of (a := 0) (b := 13) (Nat.zero_le a) hb5, etj]; rw [if_neg (by omega), if_neg (by rw [ehd]; decide), if_neg (by omega), if_neg (fun z => absurd (ehd.symm.trans z.1) (by decide))], h⟩⟩
        · have e88 := e88.symm; subst e88
          have ehd : hd τ f t = 0 := hd_n h.i e11 (fun ⟨i, hi, w⟩ => q88 ⟨i, hi, e12.symm.trans w⟩)
          refine g_if_neN (tgt := 97) (by decide +kernel : decode prog_1_method_52_code 91 = .ok (.ifCond .ne 6, 3)) (by decide) (by decide) (fun h => False.elim (by revert h; decide)) (fun _ => ?_)
          refine g_bipush (v := (-11)) (by decide +kernel : decode prog_1_method_52_code 94 = .ok (.bipush (-11), 2)) (by decide) ?_
          exact g_iret hR (by decide +kernel : decode prog_1_method_52_code 96 = .ok (.ireturn, 1)) rfl ⟨_, rfl, ⟨by simp only [takenV, rg_of ha10 hb10, rg_of (a := 0) (b := 13) (Nat.zero_le a) hb5, etj]; rw [if_neg (by omega), if_pos ehd], h⟩⟩
      · have ehd : hd τ f t = 2 := hd_m e11 (Or.inr rfl)
        refine g_aload_n (by decide +kernel : decode prog_1_method_52_code 29 = .ok (.aload_n 0, 1)) rfl ?_
        refine g_getR (by decide +kernel : decode prog_1_method_52_code 30 = .ok (.getfield 51, 3)) fl_LS_51 rfl rfl ?_
        refine g_iload_n (by decide +kernel : decode prog_1_method_52_code 33 = .ok (.iload_n 1, 1)) rfl ?_
        refine g_callVI [.int (nI t)] (by decide +kernel : decode prog_1_method_52_code 34 = .ok (.invokevirtual 297, 3)) lk_LS_297 (c_holdsRow _ (t := t) (by omega)) rfl rfl rfl rfl (Nat.le_of_ble_eq_true rfl) (Nat.le_of_ble_eq_true rfl) (fun r34 s34 h34 => ?_)
        obtain ⟨e34, h34⟩ := h34
        have e34 := e34.symm; subst e34
        have w34 : r34 = nI 1 := by rcases h34 with ⟨z, q⟩ | ⟨z, q⟩; exact z; exact absurd (fun w => m1_ne (by omega) (w.symm.trans ev)) q
        subst w34
        refine g_if_eqN (tgt := 71) (by decide +kernel : decode prog_1_method_52_code 37 = .ok (.ifCond .eq 34, 3)) (by decide) (by decide) (fun h => False.elim (by revert h; decide)) (fun _ => ?_)
        refine g_iload_n (by decide +kernel : decode prog_1_method_52_code 40 = .ok (.iload_n 2, 1)) rfl ?_
        refine g_bipush (v := nI 10) (by decide +kernel : decode prog_1_method_52_code 41 = .ok (.bipush 10, 2)) (by decide) ?_
        refine g_isub (by decide +kernel : decode prog_1_method_52_code 43 = .ok (.isub, 1)) ?_
        refine g_aload_n (by decide +kernel : decode prog_1_method_52_code 44 = .ok (.aload_n 0, 1)) rfl ?_
        refine g_getR (by decide +kernel : decode prog_1_method_52_code 45 = .ok (.getfield 51, 3)) fl_LS_51 rfl rfl ?_
        refine g_getR (by decide +kernel : decode prog_1_method_52_code 48 = .ok (.getfield 300, 3)) fl_LS_300 rfl rfl ?_
        refine g_iload_n (by decide +kernel : decode prog_1_method_52_code 51 = .ok (.iload_n 1, 1)) rfl ?_
        refine g_iaload (a := t) (by decide +kernel : decode prog_1_method_52_code 52 = .ok (.iaload, 1)) rfl rfl (by omega) (by decide) ?_
        refine g_top (w := nI sk) (ev) ?_
        refine g_icmp_ne (tgt := 68) (by decide +kernel : decode prog_1_method_52_code 53 = .ok (.if_icmp .ne 15, 3)) (by decide) (fun h53 => ?_) (fun h53 => ?_)
        · refine g_bipush (v := (-13)) (by decide +kernel : decode prog_1_method_52_code 68 = .ok (.bipush (-13), 2)) (by decide) ?_
          exact g_iret hR (by decide +kernel : decode prog_1_method_52_code 70 = .ok (.ireturn, 1)) rfl ⟨_, rfl, ⟨by simp only [takenV, rg_of ha10 hb10, rg_of (a := 0) (b := 13) (Nat.zero_le a) hb5]; rw [if_neg (by omega), if_neg (by rw [ehd]; decide), if_neg (by omega), if_neg (fun z => h53 ((sub10 (by omega) hs).mpr (by have := (nI_eq (by omega) (by omega)).mp (e12.symm.trans z.2); omega)))], h⟩⟩
        · refine g_aload_n (by decide +kernel : decode prog_1_method_52_code 56 = .ok (.aload_n 0, 1)) rfl ?_
          refine g_getR (by decide +kernel : decode prog_1_method_52_code 57 = .ok (.getfield 51, 3)) fl_LS_51 rfl rfl ?_
          refine g_getR (by decide +kernel : decode prog_1_method_52_code 60 = .ok (.getfield 303, 3)) fl_LS_303 rfl rfl ?_
          refine g_iload_n (by decide +kernel : decode prog_1_method_52_code 63 = .ok (.iload_n 1, 1)) rfl ?_
          refine g_iaload (a := t) (by decide +kernel : decode prog_1_method_52_code 64 = .ok (.iaload, 1)) rfl rfl (by omega) (by decide) ?_
          refine g_top (w := nI sn) (ew) ?_
          refine g_goto (tgt := 70) (by decide +kernel : decode prog_1_method_52_code 65 = .ok (.goto 5, 3)) (by decide) ?_
          exact g_iret hR (by decide +kernel : decode prog_1_method_52_code 70 = .ok (.ireturn, 1)) rfl ⟨_, rfl, ⟨by simp only [takenV, rg_of ha10 hb10, rg_of (a := 0) (b := 13) (Nat.zero_le a) hb5]; rw [if_neg (by omega), if_neg (by rw [ehd]; decide), if_neg (by omega), if_pos ⟨ehd, by rw [e12]; have := (sub10 (by omega) hs).mp h53; congr 1; omega⟩]; exact e13.symm, h⟩⟩
    · have e10 := e10.symm; subst e10
      refine g_if_eqN (tgt := 27) (by decide +kernel : decode prog_1_method_52_code 13 = .ok (.ifCond .eq 14, 3)) (by decide) (by decide) (fun _ => ?_) (fun h => False.elim (by revert h; decide))
      refine g_iconst (v := (-1)) (by decide +kernel : decode prog_1_method_52_code 27 = .ok (.iconst (-1), 1)) (by decide) ?_
      exact g_iret hR (by decide +kernel : decode prog_1_method_52_code 28 = .ok (.ireturn, 1)) rfl ⟨_, rfl, ⟨by simp only [takenV, rg_none n10], h⟩⟩
  · have e5 := e5.symm; subst e5
    refine g_istore_n (L' := [some (.ref 0), some (.int x), some (.int y), some (.int (nI 0)), none]) (by decide +kernel : decode prog_1_method_52_code 8 = .ok (.istore_n 3, 1)) (Nat.le_of_ble_eq_true rfl) rfl ?_
    refine g_iload_n (by decide +kernel : decode prog_1_method_52_code 9 = .ok (.iload_n 1, 1)) rfl ?_
    refine g_callSI [.int x] (by decide +kernel : decode prog_1_method_52_code 10 = .ok (.invokestatic 285, 3)) lk_LS_285 (k_isShelf _ x) rfl rfl (Nat.le_of_ble_eq_true rfl) (Nat.le_of_ble_eq_true rfl) (fun r10 s10 h10 => ?_)
    rcases h10 with ⟨e10, ⟨rfl, t, ha10, hb10, rfl⟩ | ⟨rfl, n10⟩⟩
    · have e10 := e10.symm; subst e10
      refine g_if_eqN (tgt := 27) (by decide +kernel : decode prog_1_method_52_code 13 = .ok (.ifCond .eq 14, 3)) (by decide) (by decide) (fun h => False.elim (by revert h; decide)) (fun _ => ?_)
      refine g_iload_n (by decide +kernel : decode prog_1_method_52_code 16 = .ok (.iload_n 3, 1)) rfl ?_
      refine g_if_neN (tgt := 29) (by decide +kernel : decode prog_1_method_52_code 17 = .ok (.ifCond .ne 12, 3)) (by decide) (by decide) (fun h => False.elim (by revert h; decide)) (fun _ => ?_)
      refine g_iload_n (by decide +kernel : decode prog_1_method_52_code 20 = .ok (.iload_n 2, 1)) rfl ?_
      refine g_callSI [.int y] (by decide +kernel : decode prog_1_method_52_code 21 = .ok (.invokestatic 106, 3)) lk_LS_106 (k_isKind _ y) rfl rfl (Nat.le_of_ble_eq_true rfl) (Nat.le_of_ble_eq_true rfl) (fun r21 s21 h21 => ?_)
      rcases h21 with ⟨e21, ⟨rfl, a, ha21, hb21, rfl⟩ | ⟨rfl, n21⟩⟩
      · have e21 := e21.symm; subst e21
        refine g_if_neN (tgt := 29) (by decide +kernel : decode prog_1_method_52_code 24 = .ok (.ifCond .ne 5, 3)) (by decide) (by decide) (fun _ => ?_) (fun h => False.elim (by revert h; decide))
        rcases h.2.2.2.2.2.1 t (by omega) with ⟨e11, eu, ev⟩ | ⟨e11, ev, j, hj, e12, eu⟩ | ⟨e11, eu, sk, sn, hs, hn, e12, e13, ev, ew⟩
        · have ehd : hd τ f t = 0 := hd_m e11 (Or.inl rfl)
          refine g_aload_n (by decide +kernel : decode prog_1_method_52_code 29 = .ok (.aload_n 0, 1)) rfl ?_
          refine g_getR (by decide +kernel : decode prog_1_method_52_code 30 = .ok (.getfield 51, 3)) fl_LS_51 rfl rfl ?_
          refine g_iload_n (by decide +kernel : decode prog_1_method_52_code 33 = .ok (.iload_n 1, 1)) rfl ?_
          refine g_callVI [.int (nI t)] (by decide +kernel : decode prog_1_method_52_code 34 = .ok (.invokevirtual 297, 3)) lk_LS_297 (c_holdsRow _ (t := t) (by omega)) rfl rfl rfl rfl (Nat.le_of_ble_eq_true rfl) (Nat.le_of_ble_eq_true rfl) (fun r34 s34 h34 => ?_)
          obtain ⟨e34, h34⟩ := h34
          have e34 := e34.symm; subst e34
          have w34 : r34 = nI 0 := by rcases h34 with ⟨z, q⟩ | ⟨z, q⟩; exact absurd ev q; exact z
          subst w34
          refine g_if_eqN (tgt := 71) (by decide +kernel : decode prog_1_method_52_code 37 = .ok (.ifCond .eq 34, 3)) (by decide) (by decide) (fun _ => ?_) (fun h => False.elim (by revert h; decide))
          refine g_aload_n (by decide +kernel : decode prog_1_method_52_code 71 = .ok (.aload_n 0, 1)) rfl ?_
          refine g_getR (by decide +kernel : decode prog_1_method_52_code 72 = .ok (.getfield 51, 3)) fl_LS_51 rfl rfl ?_
          refine g_getR (by decide +kernel : decode prog_1_method_52_code 75 = .ok (.getfield 306, 3)) fl_LS_306 rfl rfl ?_
          refine g_iload_n (by decide +kernel : decode prog_1_method_52_code 78 = .ok (.iload_n 1, 1)) rfl ?_
          refine g_iaload (a := t) (by decide +kernel : decode prog_1_method_52_code 79 = .ok (.iaload, 1)) rfl rfl (by omega) (by decide) ?_
          refine g_top (w := (-1)) (eu) ?_
          refine g_istore (L' := [some (.ref 0), some (.int (nI t)), some (.int (nI a)), some (.int (nI 0)), some (.int (-1))]) (by decide +kernel : decode prog_1_method_52_code 80 = .ok (.istore 4, 2)) (Nat.le_of_ble_eq_true rfl) rfl ?_
          refine g_aload_n (by decide +kernel : decode prog_1_method_52_code 82 = .ok (.aload_n 0, 1)) rfl ?_
          refine g_getR (by decide +kernel : decode prog_1_method_52_code 83 = .ok (.getfield 20, 3)) fl_LS_20 rfl rfl ?_
          refine g_iload (by decide +kernel : decode prog_1_method_52_code 86 = .ok (.iload 4, 2)) rfl ?_
          refine g_callVI [.int (-1)] (by decide +kernel : decode prog_1_method_52_code 88 = .ok (.invokevirtual 116, 3)) lk_LS_116 (n_has h.n (-1)) rfl rfl rfl rfl (Nat.le_of_ble_eq_true rfl) (Nat.le_of_ble_eq_true rfl) (fun r88 s88 h88 => ?_)
          obtain ⟨e88, h88⟩ := h88
          have e88 := e88.symm; subst e88
          have w88 : r88 = nI 0 := by rcases h88 with ⟨z, i, hi, q⟩ | ⟨z, _⟩; exact absurd q (m1_ne (by omega)); exact z
          subst w88
          refine g_if_neN (tgt := 97) (by decide +kernel : decode prog_1_method_52_code 91 = .ok (.ifCond .ne 6, 3)) (by decide) (by decide) (fun h => False.elim (by revert h; decide)) (fun _ => ?_)
          refine g_bipush (v := (-11)) (by decide +kernel : decode prog_1_method_52_code 94 = .ok (.bipush (-11), 2)) (by decide) ?_
          exact g_iret hR (by decide +kernel : decode prog_1_method_52_code 96 = .ok (.ireturn, 1)) rfl ⟨_, rfl, ⟨by simp only [takenV, rg_of ha10 hb10, rg_of (a := 0) (b := 13) (Nat.zero_le a) (show a ≤ 13 by omega)]; rw [if_neg (by omega), if_pos ehd], h⟩⟩
        · have etj : tn (τ 12 t) = j := by rw [e12, tn_nI (by omega)]
          refine g_aload_n (by decide +kernel : decode prog_1_method_52_code 29 = .ok (.aload_n 0, 1)) rfl ?_
          refine g_getR (by decide +kernel : decode prog_1_method_52_code 30 = .ok (.getfield 51, 3)) fl_LS_51 rfl rfl ?_
          refine g_iload_n (by decide +kernel : decode prog_1_method_52_code 33 = .ok (.iload_n 1, 1)) rfl ?_
          refine g_callVI [.int (nI t)] (by decide +kernel : decode prog_1_method_52_code 34 = .ok (.invokevirtual 297, 3)) lk_LS_297 (c_holdsRow _ (t := t) (by omega)) rfl rfl rfl rfl (Nat.le_of_ble_eq_true rfl) (Nat.le_of_ble_eq_true rfl) (fun r34 s34 h34 => ?_)
          obtain ⟨e34, h34⟩ := h34
          have e34 := e34.symm; subst e34
          have w34 : r34 = nI 0 := by rcases h34 with ⟨z, q⟩ | ⟨z, q⟩; exact absurd ev q; exact z
          subst w34
          refine g_if_eqN (tgt := 71) (by decide +kernel : decode prog_1_method_52_code 37 = .ok (.ifCond .eq 34, 3)) (by decide) (by decide) (fun _ => ?_) (fun h => False.elim (by revert h; decide))
          refine g_aload_n (by decide +kernel : decode prog_1_method_52_code 71 = .ok (.aload_n 0, 1)) rfl ?_
          refine g_getR (by decide +kernel : decode prog_1_method_52_code 72 = .ok (.getfield 51, 3)) fl_LS_51 rfl rfl ?_
          refine g_getR (by decide +kernel : decode prog_1_method_52_code 75 = .ok (.getfield 306, 3)) fl_LS_306 rfl rfl ?_
          refine g_iload_n (by decide +kernel : decode prog_1_method_52_code 78 = .ok (.iload_n 1, 1)) rfl ?_
          refine g_iaload (a := t) (by decide +kernel : decode prog_1_method_52_code 79 = .ok (.iaload, 1)) rfl rfl (by omega) (by decide) ?_
          refine g_top (w := nI j) (eu) ?_
          refine g_istore (L' := [some (.ref 0), some (.int (nI t)), some (.int (nI a)), some (.int (nI 0)), some (.int (nI j))]) (by decide +kernel : decode prog_1_method_52_code 80 = .ok (.istore 4, 2)) (Nat.le_of_ble_eq_true rfl) rfl ?_
          refine g_aload_n (by decide +kernel : decode prog_1_method_52_code 82 = .ok (.aload_n 0, 1)) rfl ?_
          refine g_getR (by decide +kernel : decode prog_1_method_52_code 83 = .ok (.getfield 20, 3)) fl_LS_20 rfl rfl ?_
          refine g_iload (by decide +kernel : decode prog_1_method_52_code 86 = .ok (.iload 4, 2)) rfl ?_
          refine g_callVI [.int (nI j)] (by decide +kernel : decode prog_1_method_52_code 88 = .ok (.invokevirtual 116, 3)) lk_LS_116 (n_has h.n (nI j)) rfl rfl rfl rfl (Nat.le_of_ble_eq_true rfl) (Nat.le_of_ble_eq_true rfl) (fun r88 s88 h88 => ?_)
          rcases h88 with ⟨e88, ⟨rfl, i, hi, q88⟩ | ⟨rfl, q88⟩⟩
          · have e88 := e88.symm; subst e88
            have hjn : j < nn f := by have := (nI_eq (by omega) (by omega)).mp q88; omega
            have ehd : hd τ f t = 1 := hd_1 h.i e11 hjn e12
            refine g_if_neN (tgt := 97) (by decide +kernel : decode prog_1_method_52_code 91 = .ok (.ifCond .ne 6, 3)) (by decide) (by decide) (fun _ => ?_) (fun h => False.elim (by revert h; decide))
            refine g_iload_n (by decide +kernel : decode prog_1_method_52_code 97 = .ok (.iload_n 3, 1)) rfl ?_
            refine g_if_neN (tgt := 123) (by decide +kernel : decode prog_1_method_52_code 98 = .ok (.ifCond .ne 25, 3)) (by decide) (by decide) (fun h => False.elim (by revert h; decide)) (fun _ => ?_)
            refine g_aload_n (by decide +kernel : decode prog_1_method_52_code 101 = .ok (.aload_n 0, 1)) rfl ?_
            refine g_getR (by decide +kernel : decode prog_1_method_52_code 102 = .ok (.getfield 20, 3)) fl_LS_20 rfl rfl ?_
            refine g_getR (by decide +kernel : decode prog_1_method_52_code 105 = .ok (.getfield 119, 3)) fl_LS_119 rfl rfl ?_
            refine g_iload (by decide +kernel : decode prog_1_method_52_code 108 = .ok (.iload 4, 2)) rfl ?_
            refine g_iaload (a := j) (by decide +kernel : decode prog_1_method_52_code 110 = .ok (.iaload, 1)) rfl rfl (by omega) (by decide) ?_
            refine g_top (w := nI (tn (f (19 + 6 * j + 0)))) ((h.n.p0 (by omega)).trans (h.n.i.p (o := j) (by omega) 0).1) ?_
            refine g_iload_n (by decide +kernel : decode prog_1_method_52_code 111 = .ok (.iload_n 2, 1)) rfl ?_
            refine g_callSI [.int (nI (tn (f (19 + 6 * j + 0)))), .int (nI a)] (by decide +kernel : decode prog_1_method_52_code 112 = .ok (.invokestatic 309, 3)) lk_LS_309 (k_isUnder _ (k := tn (f (19 + 6 * j + 0))) (c := a) (h.i.p hjn 0).2 (by omega)) rfl rfl (Nat.le_of_ble_eq_true rfl) (Nat.le_of_ble_eq_true rfl) (fun r112 s112 h112 => ?_)
            rcases h112 with ⟨e112, ⟨rfl, q112⟩ | ⟨rfl, q112⟩⟩
            · have e112 := e112.symm; subst e112
              refine g_if_eqN (tgt := 123) (by decide +kernel : decode prog_1_method_52_code 115 = .ok (.ifCond .eq 8, 3)) (by decide) (by decide) (fun h => False.elim (by revert h; decide)) (fun _ => ?_)
              refine g_iload (by decide +kernel : decode prog_1_method_52_code 118 = .ok (.iload 4, 2)) rfl ?_
              refine g_goto (tgt := 125) (by decide +kernel : decode prog_1_method_52_code 120 = .ok (.goto 5, 3)) (by decide) ?_
              exact g_iret hR (by decide +kernel : decode prog_1_method_52_code 125 = .ok (.ireturn, 1)) rfl ⟨_, rfl, ⟨by simp only [takenV, rg_of ha10 hb10, rg_of (a := 0) (b := 13) (Nat.zero_le a) (show a ≤ 13 by omega), etj]; rw [if_neg (by omega), if_neg (by rw [ehd]; decide), if_pos (by omega), if_pos ⟨ehd, q112⟩]; exact e12.symm, h⟩⟩
            · have e112 := e112.symm; subst e112
              refine g_if_eqN (tgt := 123) (by decide +kernel : decode prog_1_method_52_code 115 = .ok (.ifCond .eq 8, 3)) (by decide) (by decide) (fun _ => ?_) (fun h => False.elim (by revert h; decide))
              refine g_bipush (v := (-13)) (by decide +kernel : decode prog_1_method_52_code 123 = .ok (.bipush (-13), 2)) (by decide) ?_
              exact g_iret hR (by decide +kernel : decode prog_1_method_52_code 125 = .ok (.ireturn, 1)) rfl ⟨_, rfl, ⟨by simp only [takenV, rg_of ha10 hb10, rg_of (a := 0) (b := 13) (Nat.zero_le a) (show a ≤ 13 by omega), etj]; rw [if_neg (by omega), if_neg (by rw [ehd]; decide), if_pos (by omega), if_neg (fun z => q112 z.2)], h⟩⟩
          · have e88 := e88.symm; subst e88
            have ehd : hd τ f t = 0 := hd_n h.i e11 (fun ⟨i, hi, w⟩ => q88 ⟨i, hi, e12.symm.trans w⟩)
            refine g_if_neN (tgt := 97) (by decide +kernel : decode prog_1_method_52_code 91 = .ok (.ifCond .ne 6, 3)) (by decide) (by decide) (fun h => False.elim (by revert h; decide)) (fun _ => ?_)
            refine g_bipush (v := (-11)) (by decide +kernel : decode prog_1_method_52_code 94 = .ok (.bipush (-11), 2)) (by decide) ?_
            exact g_iret hR (by decide +kernel : decode prog_1_method_52_code 96 = .ok (.ireturn, 1)) rfl ⟨_, rfl, ⟨by simp only [takenV, rg_of ha10 hb10, rg_of (a := 0) (b := 13) (Nat.zero_le a) (show a ≤ 13 by omega), etj]; rw [if_neg (by omega), if_pos ehd], h⟩⟩
        · have ehd : hd τ f t = 2 := hd_m e11 (Or.inr rfl)
          refine g_aload_n (by decide +kernel : decode prog_1_method_52_code 29 = .ok (.aload_n 0, 1)) rfl ?_
          refine g_getR (by decide +kernel : decode prog_1_method_52_code 30 = .ok (.getfield 51, 3)) fl_LS_51 rfl rfl ?_
          refine g_iload_n (by decide +kernel : decode prog_1_method_52_code 33 = .ok (.iload_n 1, 1)) rfl ?_
          refine g_callVI [.int (nI t)] (by decide +kernel : decode prog_1_method_52_code 34 = .ok (.invokevirtual 297, 3)) lk_LS_297 (c_holdsRow _ (t := t) (by omega)) rfl rfl rfl rfl (Nat.le_of_ble_eq_true rfl) (Nat.le_of_ble_eq_true rfl) (fun r34 s34 h34 => ?_)
          obtain ⟨e34, h34⟩ := h34
          have e34 := e34.symm; subst e34
          have w34 : r34 = nI 1 := by rcases h34 with ⟨z, q⟩ | ⟨z, q⟩; exact z; exact absurd (fun w => m1_ne (by omega) (w.symm.trans ev)) q
          subst w34
          refine g_if_eqN (tgt := 71) (by decide +kernel : decode prog_1_method_52_code 37 = .ok (.ifCond .eq 34, 3)) (by decide) (by decide) (fun h => False.elim (by revert h; decide)) (fun _ => ?_)
          refine g_iload_n (by decide +kernel : decode prog_1_method_52_code 40 = .ok (.iload_n 2, 1)) rfl ?_
          refine g_bipush (v := nI 10) (by decide +kernel : decode prog_1_method_52_code 41 = .ok (.bipush 10, 2)) (by decide) ?_
          refine g_isub (by decide +kernel : decode prog_1_method_52_code 43 = .ok (.isub, 1)) ?_
          refine g_aload_n (by decide +kernel : decode prog_1_method_52_code 44 = .ok (.aload_n 0, 1)) rfl ?_
          refine g_getR (by decide +kernel : decode prog_1_method_52_code 45 = .ok (.getfield 51, 3)) fl_LS_51 rfl rfl ?_
          refine g_getR (by decide +kernel : decode prog_1_method_52_code 48 = .ok (.getfield 300, 3)) fl_LS_300 rfl rfl ?_
          refine g_iload_n (by decide +kernel : decode prog_1_method_52_code 51 = .ok (.iload_n 1, 1)) rfl ?_
          refine g_iaload (a := t) (by decide +kernel : decode prog_1_method_52_code 52 = .ok (.iaload, 1)) rfl rfl (by omega) (by decide) ?_
          refine g_top (w := nI sk) (ev) ?_
          refine g_icmp_ne (tgt := 68) (by decide +kernel : decode prog_1_method_52_code 53 = .ok (.if_icmp .ne 15, 3)) (by decide) (fun h53 => ?_) (fun h53 => ?_)
          · refine g_bipush (v := (-13)) (by decide +kernel : decode prog_1_method_52_code 68 = .ok (.bipush (-13), 2)) (by decide) ?_
            exact g_iret hR (by decide +kernel : decode prog_1_method_52_code 70 = .ok (.ireturn, 1)) rfl ⟨_, rfl, ⟨by simp only [takenV, rg_of ha10 hb10, rg_of (a := 0) (b := 13) (Nat.zero_le a) (show a ≤ 13 by omega)]; rw [if_neg (by omega), if_neg (by rw [ehd]; decide), if_pos (by omega), if_neg (fun z => absurd (ehd.symm.trans z.1) (by decide))], h⟩⟩
          · refine g_aload_n (by decide +kernel : decode prog_1_method_52_code 56 = .ok (.aload_n 0, 1)) rfl ?_
            refine g_getR (by decide +kernel : decode prog_1_method_52_code 57 = .ok (.getfield 51, 3)) fl_LS_51 rfl rfl ?_
            refine g_getR (by decide +kernel : decode prog_1_method_52_code 60 = .ok (.getfield 303, 3)) fl_LS_303 rfl rfl ?_
            refine g_iload_n (by decide +kernel : decode prog_1_method_52_code 63 = .ok (.iload_n 1, 1)) rfl ?_
            refine g_iaload (a := t) (by decide +kernel : decode prog_1_method_52_code 64 = .ok (.iaload, 1)) rfl rfl (by omega) (by decide) ?_
            refine g_top (w := nI sn) (ew) ?_
            refine g_goto (tgt := 70) (by decide +kernel : decode prog_1_method_52_code 65 = .ok (.goto 5, 3)) (by decide) ?_
            exact g_iret hR (by decide +kernel : decode prog_1_method_52_code 70 = .ok (.ireturn, 1)) rfl ⟨_, rfl, ⟨absurd ((sub10 (by omega) hs).mp h53) (by omega), h⟩⟩
      · have e21 := e21.symm; subst e21
        refine g_if_neN (tgt := 29) (by decide +kernel : decode prog_1_method_52_code 24 = .ok (.ifCond .ne 5, 3)) (by decide) (by decide) (fun h => False.elim (by revert h; decide)) (fun _ => ?_)
        refine g_iconst (v := (-1)) (by decide +kernel : decode prog_1_method_52_code 27 = .ok (.iconst (-1), 1)) (by decide) ?_
        exact g_iret hR (by decide +kernel : decode prog_1_method_52_code 28 = .ok (.ireturn, 1)) rfl ⟨_, rfl, ⟨tk_no (rg_of ha10 hb10) n5 n21, h⟩⟩
    · have e10 := e10.symm; subst e10
      refine g_if_eqN (tgt := 27) (by decide +kernel : decode prog_1_method_52_code 13 = .ok (.ifCond .eq 14, 3)) (by decide) (by decide) (fun _ => ?_) (fun h => False.elim (by revert h; decide))
      refine g_iconst (v := (-1)) (by decide +kernel : decode prog_1_method_52_code 27 = .ok (.iconst (-1), 1)) (by decide) ?_
      exact g_iret hR (by decide +kernel : decode prog_1_method_52_code 28 = .ok (.ireturn, 1)) rfl ⟨_, rfl, ⟨by simp only [takenV, rg_none n10], h⟩⟩
theorem i32_to (x : Int32) {r : Nat} (hr : r < 2 ^ 30) : (nI 0 ≤ x ∧ x ≤ nI r - nI 1) ↔ ∃ j, j < r ∧ x = nI j := by
  rw [Int32.le_iff_toInt_le, Int32.le_iff_toInt_le, pk_sub_toInt hr (by decide), nI_toInt (by decide)]
  constructor
  · rintro ⟨h1, h2⟩
    refine ⟨x.toInt.toNat, by omega, ?_⟩
    apply Int32.toInt_inj.mp
    rw [nI_toInt (by omega)]; omega
  · rintro ⟨j, h1, rfl⟩
    rw [nI_toInt (by omega)]; omega
theorem k_withinR (σ : Store) (x : Int32) {r : Nat} (hr : r < 2 ^ 30) : Ct ΛC mt_LS_within 0 [.int x, .int (nI 0), .int (nI r - nI 1)] σ (PB σ (∃ j, j < r ∧ x = nI j)) := PB.of (k_within0 σ x (nI 0) (nI r - nI 1)) (i32_to x hr)
set_option maxRecDepth 20000 in
theorem k_trace {σ τ : Store} {f : Row} (h : RX σ τ f) (x : Int32) : Ct ΛC mt_LS_trace 1 [.ref 0, .int x] σ (cP τ (traceV τ x) f) := by
  refine Ct.of (by decide) (Nat.le_of_ble_eq_true rfl) (fun X hR => ?_)
  show G (ΛC, mt_LS_trace, 1) X σ [some (.ref 0), some (.int x)] [] 0
  have hn8 := h.n8
  obtain ⟨r, hr, er, er2, ey⟩ := h.2.2.2.2.2.2
  have htn : tn (τ 0 22) = r := by rw [er2, tn_nI (by omega)]
  refine g_iload_n (by decide +kernel : decode prog_1_method_55_code 0 = .ok (.iload_n 1, 1)) rfl ?_
  refine g_iconst (v := nI 0) (by decide +kernel : decode prog_1_method_55_code 1 = .ok (.iconst 0, 1)) (by decide) ?_
  refine g_aload_n (by decide +kernel : decode prog_1_method_55_code 2 = .ok (.aload_n 0, 1)) rfl ?_
  refine g_getR (by decide +kernel : decode prog_1_method_55_code 3 = .ok (.getfield 58, 3)) fl_LS_58 rfl rfl ?_
  refine g_getI (by decide +kernel : decode prog_1_method_55_code 6 = .ok (.getfield 315, 3)) fl_LS_315.get rfl rfl ?_
  refine g_top (w := nI r) (er) ?_
  refine g_iconst (v := nI 1) (by decide +kernel : decode prog_1_method_55_code 9 = .ok (.iconst 1, 1)) (by decide) ?_
  refine g_isub (by decide +kernel : decode prog_1_method_55_code 10 = .ok (.isub, 1)) ?_
  refine g_callSI [.int x, .int (nI 0), .int ((nI r) - (nI 1))] (by decide +kernel : decode prog_1_method_55_code 11 = .ok (.invokestatic 62, 3)) lk_LS_62 (k_withinR _ x (r := r) (by omega)) rfl rfl (Nat.le_of_ble_eq_true rfl) (Nat.le_of_ble_eq_true rfl) (fun r11 s11 h11 => ?_)
  rcases h11 with ⟨e11, ⟨rfl, i, hi, rfl⟩ | ⟨rfl, no⟩⟩
  · have e11 := e11.symm; subst e11
    refine g_if_eqN (tgt := 29) (by decide +kernel : decode prog_1_method_55_code 14 = .ok (.ifCond .eq 15, 3)) (by decide) (by decide) (fun h => False.elim (by revert h; decide)) (fun _ => ?_)
    refine g_aload_n (by decide +kernel : decode prog_1_method_55_code 17 = .ok (.aload_n 0, 1)) rfl ?_
    refine g_getR (by decide +kernel : decode prog_1_method_55_code 18 = .ok (.getfield 58, 3)) fl_LS_58 rfl rfl ?_
    refine g_getR (by decide +kernel : decode prog_1_method_55_code 21 = .ok (.getfield 322, 3)) fl_LS_322 rfl rfl ?_
    refine g_iload_n (by decide +kernel : decode prog_1_method_55_code 24 = .ok (.iload_n 1, 1)) rfl ?_
    refine g_iaload (a := i) (by decide +kernel : decode prog_1_method_55_code 25 = .ok (.iaload, 1)) rfl rfl (by omega) (by decide) ?_
    refine g_top (w := τ 14 i) (ey i hi) ?_
    refine g_goto (tgt := 31) (by decide +kernel : decode prog_1_method_55_code 26 = .ok (.goto 5, 3)) (by decide) ?_
    exact g_iret hR (by decide +kernel : decode prog_1_method_55_code 31 = .ok (.ireturn, 1)) rfl ⟨_, rfl, ⟨by first | (simp only [traceV, ri_of (show r < 2 ^ 31 by omega) hi, htn]; done) | (simp only [traceV, ri_of (show r < 2 ^ 31 by omega) hi, htn]; rfl), h⟩⟩
  · have e11 := e11.symm; subst e11
    refine g_if_eqN (tgt := 29) (by decide +kernel : decode prog_1_method_55_code 14 = .ok (.ifCond .eq 15, 3)) (by decide) (by decide) (fun _ => ?_) (fun h => False.elim (by revert h; decide))
    refine g_bipush (v := (-3)) (by decide +kernel : decode prog_1_method_55_code 29 = .ok (.bipush (-3), 2)) (by decide) ?_
    exact g_iret hR (by decide +kernel : decode prog_1_method_55_code 31 = .ok (.ireturn, 1)) rfl ⟨_, rfl, ⟨by first | (simp only [traceV, ri_none (show r < 2 ^ 31 by omega) no, htn]; done) | (simp only [traceV, ri_none (show r < 2 ^ 31 by omega) no, htn]; rfl), h⟩⟩
set_option maxRecDepth 20000 in
theorem k_many {σ τ : Store} {f : Row} (h : RX σ τ f) (x : Int32) : Ct ΛC mt_LS_many 2 [.ref 0, .int x] σ (cP τ (manyV τ f x) f) := by
  refine Ct.of (by decide) (Nat.le_of_ble_eq_true rfl) (fun X hR => ?_)
  show G (ΛC, mt_LS_many, 2) X σ [some (.ref 0), some (.int x)] [] 0
  have hn8 := h.n8
  obtain ⟨rt, et, hTP, _⟩ := h.2.2.1
  obtain ⟨rr, hrr, er, er2, _⟩ := h.2.2.2.1
  obtain ⟨ra, hra, ea, ea2, _⟩ := h.2.2.2.2.2.2
  refine g_iload_n (by decide +kernel : decode prog_1_method_56_code 0 = .ok (.iload_n 1, 1)) rfl ?_
  rcases sw_in x 7 (by decide) with ⟨j, hj, rfl⟩ | ⟨ho, hno⟩
  · rcases (show j = 0 ∨ j = 1 ∨ j = 2 ∨ j = 3 ∨ j = 4 ∨ j = 5 ∨ j = 6 by omega) with rfl | rfl | rfl | rfl | rfl | rfl | rfl
    · refine g_tableIn (x := nI 0) (off := 43) (tgt := 44) (by decide +kernel : decode prog_1_method_56_code 1 = .ok (.tableswitch 102 0 6 #[43, 51, 59, 70, 78, 86, 94], 43)) (by decide) (by decide) rfl (by decide) ?_
      refine g_aload_n (by decide +kernel : decode prog_1_method_56_code 44 = .ok (.aload_n 0, 1)) rfl ?_
      refine g_getR (by decide +kernel : decode prog_1_method_56_code 45 = .ok (.getfield 20, 3)) fl_LS_20 rfl rfl ?_
      refine g_getI (by decide +kernel : decode prog_1_method_56_code 48 = .ok (.getfield 92, 3)) fl_LS_92.get rfl rfl ?_
      refine g_top (w := nI (nn f)) (h.n.n) ?_
      exact g_iret hR (by decide +kernel : decode prog_1_method_56_code 51 = .ok (.ireturn, 1)) rfl ⟨_, rfl, ⟨by simp only [manyV, rg_yes 6 0]; exact h.i.n.1.symm, h⟩⟩
    · refine g_tableIn (x := nI 1) (off := 51) (tgt := 52) (by decide +kernel : decode prog_1_method_56_code 1 = .ok (.tableswitch 102 0 6 #[43, 51, 59, 70, 78, 86, 94], 43)) (by decide) (by decide) rfl (by decide) ?_
      refine g_aload_n (by decide +kernel : decode prog_1_method_56_code 52 = .ok (.aload_n 0, 1)) rfl ?_
      refine g_getR (by decide +kernel : decode prog_1_method_56_code 53 = .ok (.getfield 20, 3)) fl_LS_20 rfl rfl ?_
      refine g_callVI [] (by decide +kernel : decode prog_1_method_56_code 56 = .ok (.invokevirtual 169, 3)) lk_LS_169 (n_hiddenOnes h.n) rfl rfl rfl rfl (Nat.le_of_ble_eq_true rfl) (Nat.le_of_ble_eq_true rfl) (fun r56 s56 h56 => ?_)
      obtain ⟨rfl, e56⟩ := h56
      have e56 := e56.symm; subst e56
      exact g_iret hR (by decide +kernel : decode prog_1_method_56_code 59 = .ok (.ireturn, 1)) rfl ⟨_, rfl, ⟨by first | (simp only [manyV, rg_yes 6 1]; done) | (simp only [manyV, rg_yes 6 1]; rfl), h⟩⟩
    · refine g_tableIn (x := nI 2) (off := 59) (tgt := 60) (by decide +kernel : decode prog_1_method_56_code 1 = .ok (.tableswitch 102 0 6 #[43, 51, 59, 70, 78, 86, 94], 43)) (by decide) (by decide) rfl (by decide) ?_
      refine g_aload_n (by decide +kernel : decode prog_1_method_56_code 60 = .ok (.aload_n 0, 1)) rfl ?_
      refine g_getR (by decide +kernel : decode prog_1_method_56_code 61 = .ok (.getfield 20, 3)) fl_LS_20 rfl rfl ?_
      refine g_callVI [] (by decide +kernel : decode prog_1_method_56_code 64 = .ok (.invokevirtual 186, 3)) lk_LS_186 (n_hidingPlaces h.n) rfl rfl rfl rfl (Nat.le_of_ble_eq_true rfl) (Nat.le_of_ble_eq_true rfl) (fun r64 s64 h64 => ?_)
      obtain ⟨rfl, e64⟩ := h64
      have e64 := e64.symm; subst e64
      refine g_callSI [.int (nI (hpl f (nn f)))] (by decide +kernel : decode prog_1_method_56_code 67 = .ok (.invokestatic 160, 3)) lk_LS_160 (m_bitCount ΛC _ (hpl_lt h.i _ (Nat.le_refl _))) rfl rfl (Nat.le_of_ble_eq_true rfl) (Nat.le_of_ble_eq_true rfl) (fun r67 s67 h67 => ?_)
      obtain ⟨rfl, e67⟩ := h67
      have e67 := e67.symm; subst e67
      exact g_iret hR (by decide +kernel : decode prog_1_method_56_code 70 = .ok (.ireturn, 1)) rfl ⟨_, rfl, ⟨by first | (simp only [manyV, rg_yes 6 2]; done) | (simp only [manyV, rg_yes 6 2]; rfl), h⟩⟩
    · refine g_tableIn (x := nI 3) (off := 70) (tgt := 71) (by decide +kernel : decode prog_1_method_56_code 1 = .ok (.tableswitch 102 0 6 #[43, 51, 59, 70, 78, 86, 94], 43)) (by decide) (by decide) rfl (by decide) ?_
      refine g_aload_n (by decide +kernel : decode prog_1_method_56_code 71 = .ok (.aload_n 0, 1)) rfl ?_
      refine g_getR (by decide +kernel : decode prog_1_method_56_code 72 = .ok (.getfield 20, 3)) fl_LS_20 rfl rfl ?_
      refine g_callVI [] (by decide +kernel : decode prog_1_method_56_code 75 = .ok (.invokevirtual 325, 3)) lk_LS_325 (n_peopleInCompany h.n) rfl rfl rfl rfl (Nat.le_of_ble_eq_true rfl) (Nat.le_of_ble_eq_true rfl) (fun r75 s75 h75 => ?_)
      obtain ⟨rfl, e75⟩ := h75
      have e75 := e75.symm; subst e75
      exact g_iret hR (by decide +kernel : decode prog_1_method_56_code 78 = .ok (.ireturn, 1)) rfl ⟨_, rfl, ⟨by first | (simp only [manyV, rg_yes 6 3]; done) | (simp only [manyV, rg_yes 6 3]; rfl), h⟩⟩
    · refine g_tableIn (x := nI 4) (off := 78) (tgt := 79) (by decide +kernel : decode prog_1_method_56_code 1 = .ok (.tableswitch 102 0 6 #[43, 51, 59, 70, 78, 86, 94], 43)) (by decide) (by decide) rfl (by decide) ?_
      refine g_aload_n (by decide +kernel : decode prog_1_method_56_code 79 = .ok (.aload_n 0, 1)) rfl ?_
      refine g_getR (by decide +kernel : decode prog_1_method_56_code 80 = .ok (.getfield 37, 3)) fl_LS_37 rfl rfl ?_
      refine g_getI (by decide +kernel : decode prog_1_method_56_code 83 = .ok (.getfield 91, 3)) fl_LS_91.get rfl rfl ?_
      refine g_top (w := nI rr) (er) ?_
      exact g_iret hR (by decide +kernel : decode prog_1_method_56_code 86 = .ok (.ireturn, 1)) rfl ⟨_, rfl, ⟨by simp only [manyV, rg_yes 6 4]; exact er2.symm, h⟩⟩
    · refine g_tableIn (x := nI 5) (off := 86) (tgt := 87) (by decide +kernel : decode prog_1_method_56_code 1 = .ok (.tableswitch 102 0 6 #[43, 51, 59, 70, 78, 86, 94], 43)) (by decide) (by decide) rfl (by decide) ?_
      refine g_aload_n (by decide +kernel : decode prog_1_method_56_code 87 = .ok (.aload_n 0, 1)) rfl ?_
      refine g_getR (by decide +kernel : decode prog_1_method_56_code 88 = .ok (.getfield 30, 3)) fl_LS_30 rfl rfl ?_
      refine g_getI (by decide +kernel : decode prog_1_method_56_code 91 = .ok (.getfield 66, 3)) fl_LS_66.get rfl rfl ?_
      refine g_top (w := nI rt) (et) ?_
      exact g_iret hR (by decide +kernel : decode prog_1_method_56_code 94 = .ok (.ireturn, 1)) rfl ⟨_, rfl, ⟨by simp only [manyV, rg_yes 6 5]; exact hTP.1.symm, h⟩⟩
    · refine g_tableIn (x := nI 6) (off := 94) (tgt := 95) (by decide +kernel : decode prog_1_method_56_code 1 = .ok (.tableswitch 102 0 6 #[43, 51, 59, 70, 78, 86, 94], 43)) (by decide) (by decide) rfl (by decide) ?_
      refine g_aload_n (by decide +kernel : decode prog_1_method_56_code 95 = .ok (.aload_n 0, 1)) rfl ?_
      refine g_getR (by decide +kernel : decode prog_1_method_56_code 96 = .ok (.getfield 58, 3)) fl_LS_58 rfl rfl ?_
      refine g_getI (by decide +kernel : decode prog_1_method_56_code 99 = .ok (.getfield 315, 3)) fl_LS_315.get rfl rfl ?_
      refine g_top (w := nI ra) (ea) ?_
      exact g_iret hR (by decide +kernel : decode prog_1_method_56_code 102 = .ok (.ireturn, 1)) rfl ⟨_, rfl, ⟨by simp only [manyV, rg_yes 6 6]; exact ea2.symm, h⟩⟩
  · refine g_tableOut (tgt := 103) (by decide +kernel : decode prog_1_method_56_code 1 = .ok (.tableswitch 102 0 6 #[43, 51, 59, 70, 78, 86, 94], 43)) (by omega) (by decide) ?_
    refine g_iconst (v := (-1)) (by decide +kernel : decode prog_1_method_56_code 103 = .ok (.iconst (-1), 1)) (by decide) ?_
    exact g_iret hR (by decide +kernel : decode prog_1_method_56_code 104 = .ok (.ireturn, 1)) rfl ⟨_, rfl, ⟨by first | (simp only [manyV, rg_no hno]; done) | (simp only [manyV, rg_no hno]; rfl), h⟩⟩
theorem u4 {τ : Store} : True := trivial
set_option maxRecDepth 20000 in
theorem k_keep {σ τ : Store} {f : Row} (h : RX σ τ f)  : Ct ΛC mt_LS_keep 2 [.ref 0] σ (cP (s_up (s_row τ 2 f) 0 4 (nI 1)) (nI 1) f) := by
  refine Ct.of (by decide) (Nat.le_of_ble_eq_true rfl) (fun X hR => ?_)
  show G (ΛC, mt_LS_keep, 2) X σ [some (.ref 0)] [] 0
  have hn8 := h.n8
  refine g_aload_n (by decide +kernel : decode prog_1_method_57_code 0 = .ok (.aload_n 0, 1)) rfl ?_
  refine g_getR (by decide +kernel : decode prog_1_method_57_code 1 = .ok (.getfield 24, 3)) fl_LS_24 rfl rfl ?_
  refine g_aload_n (by decide +kernel : decode prog_1_method_57_code 4 = .ok (.aload_n 0, 1)) rfl ?_
  refine g_getR (by decide +kernel : decode prog_1_method_57_code 5 = .ok (.getfield 20, 3)) fl_LS_20 rfl rfl ?_
  refine g_callVV [.ref 1] (by decide +kernel : decode prog_1_method_57_code 8 = .ok (.invokevirtual 87, 3)) lk_LS_87 (c_becKN h) rfl rfl rfl rfl (Nat.le_of_ble_eq_true rfl) (Nat.le_of_ble_eq_true rfl) (fun s8 h8 => ?_)
  have g8 := h8
  refine g_aload_n (by decide +kernel : decode prog_1_method_57_code 11 = .ok (.aload_n 0, 1)) rfl ?_
  refine g_iconst (v := nI 1) (by decide +kernel : decode prog_1_method_57_code 12 = .ok (.iconst 1, 1)) (by decide) ?_
  refine g_putZ (by decide +kernel : decode prog_1_method_57_code 13 = .ok (.putfield 328, 3)) fl_LS_328 rfl rfl (by decide) ?_
  refine g_iconst (v := nI 1) (by decide +kernel : decode prog_1_method_57_code 16 = .ok (.iconst 1, 1)) (by decide) ?_
  exact g_iret hR (by decide +kernel : decode prog_1_method_57_code 17 = .ok (.ireturn, 1)) rfl ⟨_, rfl, ⟨rfl, g8⟩⟩
set_option maxRecDepth 20000 in
theorem k_again {σ τ : Store} {f : Row} (h : RX σ τ f)  : Ct ΛC mt_LS_again 2 [.ref 0] σ (PI (fun r σ' => (τ 0 4 = 0 ∧ r = -3 ∧ RX σ' τ f) ∨ (¬ τ 0 4 = 0 ∧ r = τ 2 0 ∧ RX σ' τ (τ 2)))) := by
  refine Ct.of (by decide) (Nat.le_of_ble_eq_true rfl) (fun X hR => ?_)
  show G (ΛC, mt_LS_again, 2) X σ [some (.ref 0)] [] 0
  have hn8 := h.n8
  refine g_aload_n (by decide +kernel : decode prog_1_method_58_code 0 = .ok (.aload_n 0, 1)) rfl ?_
  refine g_getI (by decide +kernel : decode prog_1_method_58_code 1 = .ok (.getfield 328, 3)) fl_LS_328.get rfl rfl ?_
  rcases h.2.1 with ⟨a2, t4⟩ | ⟨a2, t4, hK⟩
  · refine g_top (w := nI 0) a2 ?_
    refine g_if_neN (tgt := 10) (by decide +kernel : decode prog_1_method_58_code 4 = .ok (.ifCond .ne 6, 3)) (by decide) (by decide) (fun h => False.elim (by revert h; decide)) (fun _ => ?_)
    refine g_bipush (v := (-3)) (by decide +kernel : decode prog_1_method_58_code 7 = .ok (.bipush (-3), 2)) (by decide) ?_
    exact g_iret hR (by decide +kernel : decode prog_1_method_58_code 9 = .ok (.ireturn, 1)) rfl ⟨_, rfl, Or.inl ⟨t4, rfl, h⟩⟩
  · refine g_top (w := nI 1) a2 ?_
    refine g_if_neN (tgt := 10) (by decide +kernel : decode prog_1_method_58_code 4 = .ok (.ifCond .ne 6, 3)) (by decide) (by decide) (fun _ => ?_) (fun h => False.elim (by revert h; decide))
    refine g_aload_n (by decide +kernel : decode prog_1_method_58_code 10 = .ok (.aload_n 0, 1)) rfl ?_
    refine g_getR (by decide +kernel : decode prog_1_method_58_code 11 = .ok (.getfield 20, 3)) fl_LS_20 rfl rfl ?_
    refine g_aload_n (by decide +kernel : decode prog_1_method_58_code 14 = .ok (.aload_n 0, 1)) rfl ?_
    refine g_getR (by decide +kernel : decode prog_1_method_58_code 15 = .ok (.getfield 24, 3)) fl_LS_24 rfl rfl ?_
    refine g_callVV [.ref 19] (by decide +kernel : decode prog_1_method_58_code 18 = .ok (.invokevirtual 87, 3)) lk_LS_87 (c_becNK h hK a2 t4) rfl rfl rfl rfl (Nat.le_of_ble_eq_true rfl) (Nat.le_of_ble_eq_true rfl) (fun s18 h18 => ?_)
    have g18 := h18
    refine g_aload_n (by decide +kernel : decode prog_1_method_58_code 21 = .ok (.aload_n 0, 1)) rfl ?_
    refine g_getR (by decide +kernel : decode prog_1_method_58_code 22 = .ok (.getfield 20, 3)) fl_LS_20 rfl rfl ?_
    refine g_getI (by decide +kernel : decode prog_1_method_58_code 25 = .ok (.getfield 92, 3)) fl_LS_92.get rfl rfl ?_
    refine g_top (w := nI (nn (τ 2))) (g18.n.n) ?_
    exact g_iret hR (by decide +kernel : decode prog_1_method_58_code 28 = .ok (.ireturn, 1)) rfl ⟨_, rfl, Or.inr ⟨fun z => absurd (t4.symm.trans z) (by decide), g18.i.n.1.symm, g18⟩⟩
