/-! THE PROGRAM: acts -/
abbrev ΛA : Lay := [.inr (7, [some 1, none, none, none, none, none]), .inl (false, 30)]
/-- the actor with the trace B of r bodies, p: parted by 0 -/
def bS (σ : Store) (B : Row) (r p : Nat) : Store := s_up (s_up (s_row σ 1 B) 0 1 (nI r)) 0 5 (nI p)
theorem bS_1 (σ : Store) (B : Row) (r p i : Nat) (v : Int32) : s_up (bS σ B r p) 1 i v = bS σ (upd B i v) r p := by
  funext k
  unfold bS s_up s_row
  by_cases h : k = 1
  · subst h; rfl
  · simp [h]
theorem bS_r (σ : Store) (B : Row) (r p q : Nat) : s_up (bS σ B r p) 0 1 (nI q) = bS σ B q p := by
  funext k
  unfold bS s_up s_row
  by_cases h : k = 0
  · subst h
    simp only [↓reduceIte]
    funext j
    unfold upd
    by_cases h1 : j = 1
    · subst h1; rfl
    · simp [h1]
  · simp [h]
theorem bS_p (σ : Store) (B : Row) (r p q : Nat) : s_up (bS σ B r p) 0 5 (nI q) = bS σ B r q := by
  funext k
  unfold bS s_up s_row
  by_cases h : k = 0
  · subst h
    simp only [↓reduceIte]
    rw [upd_upd]
  · simp [h]
set_option maxRecDepth 20000 in
theorem r_stop {D : Nat} (σ : Store) (B : Row) (r : Nat) (c w : Nat) (x : Int32) {d : Nat} (hd : d ≤ 12) : Ct ΛA mt_Ac_run D [.ref 0, .int (nI c), .int (nI w), .int x, .int (nI d)] (bS σ B r 1) (PF (nI 0) (bS σ B r 1)) := by
  refine Ct.of (by decide) (Nat.le_of_ble_eq_true rfl) (fun X hR => ?_)
  show G (ΛA, mt_Ac_run, D) X (bS σ B r 1) [some (.ref 0), some (.int (nI c)), some (.int (nI w)), some (.int x), some (.int (nI d)), none, none, none] [] 0
  refine g_iload_n (by decide +kernel : decode prog_2_method_3_code 0 = .ok (.iload_n 1, 1)) rfl ?_
  refine g_iconst (v := nI 4) (by decide +kernel : decode prog_2_method_3_code 1 = .ok (.iconst 4, 1)) (by decide) ?_
  refine g_imulN (by decide +kernel : decode prog_2_method_3_code 2 = .ok (.imul, 1)) ?_
  refine g_iload_n (by decide +kernel : decode prog_2_method_3_code 3 = .ok (.iload_n 2, 1)) rfl ?_
  refine g_iaddN (by decide +kernel : decode prog_2_method_3_code 4 = .ok (.iadd, 1)) ?_
  refine g_istore (L' := [some (.ref 0), some (.int (nI c)), some (.int (nI w)), some (.int x), some (.int (nI d)), some (.int (nI (c * 4 + w))), none, none]) (by decide +kernel : decode prog_2_method_3_code 5 = .ok (.istore 5, 2)) (Nat.le_of_ble_eq_true rfl) rfl ?_
  refine g_iload (by decide +kernel : decode prog_2_method_3_code 7 = .ok (.iload 4, 2)) rfl ?_
  refine g_bipush (v := nI 12) (by decide +kernel : decode prog_2_method_3_code 9 = .ok (.bipush 12, 2)) (by decide) ?_
  refine g_icmp_gtN (tgt := 35) (by decide +kernel : decode prog_2_method_3_code 11 = .ok (.if_icmp .gt 24, 3)) (by decide) (by omega) (by decide) (fun h => absurd h (by omega)) (fun _ => ?_)
  refine g_aload_n (by decide +kernel : decode prog_2_method_3_code 14 = .ok (.aload_n 0, 1)) rfl ?_
  refine g_getI (by decide +kernel : decode prog_2_method_3_code 15 = .ok (.getfield 15, 3)) fl_Ac_15.get rfl rfl ?_
  refine g_top (w := nI 1) (rfl) ?_
  refine g_if_neN (tgt := 35) (by decide +kernel : decode prog_2_method_3_code 18 = .ok (.ifCond .ne 17, 3)) (by decide) (by decide) (fun _ => ?_) (fun h => False.elim (by revert h; decide))
  refine g_iconst (v := nI 0) (by decide +kernel : decode prog_2_method_3_code 35 = .ok (.iconst 0, 1)) (by decide) ?_
  exact g_iret hR (by decide +kernel : decode prog_2_method_3_code 36 = .ok (.ireturn, 1)) rfl ⟨_, rfl, ⟨rfl, rfl⟩⟩
set_option maxRecDepth 20000 in
theorem r_quote (σ : Store) (B : Row) (r : Nat) (x : Int32) {n a : Nat} (hn7 : n ≤ 7) (ha9 : a ≤ 9) (hna : n = a) : Ct ΛA mt_Ac_quotient 0 [.ref 0, .int x, .int (nI a - nI n)] (bS σ B r 0) (PF (pP n a x) (bS σ B r 1)) := by
  refine Ct.of (by decide) (Nat.le_of_ble_eq_true rfl) (fun X hR => ?_)
  show G (ΛA, mt_Ac_quotient, 0) X (bS σ B r 0) [some (.ref 0), some (.int x), some (.int (nI a - nI n))] [] 0
  refine g_iload_n (by decide +kernel : decode prog_2_method_4_code 0 = .ok (.iload_n 2, 1)) rfl ?_
  refine g_if_ne (tgt := 11) (by decide +kernel : decode prog_2_method_4_code 1 = .ok (.ifCond .ne 10, 3)) (by decide) (fun h => absurd (by rw [hna]; exact Int32.sub_self _) h) (fun _ => ?_)
  refine g_aload_n (by decide +kernel : decode prog_2_method_4_code 4 = .ok (.aload_n 0, 1)) rfl ?_
  refine g_iconst (v := nI 1) (by decide +kernel : decode prog_2_method_4_code 5 = .ok (.iconst 1, 1)) (by decide) ?_
  refine g_putZ (by decide +kernel : decode prog_2_method_4_code 6 = .ok (.putfield 15, 3)) fl_Ac_15 rfl rfl (by decide) ?_
  refine g_sto (bS_p _ _ _ _ _) ?_
  refine g_iconst (v := nI 0) (by decide +kernel : decode prog_2_method_4_code 9 = .ok (.iconst 0, 1)) (by decide) ?_
  exact g_iret hR (by decide +kernel : decode prog_2_method_4_code 10 = .ok (.ireturn, 1)) rfl ⟨_, rfl, ⟨by unfold pP; rw [if_pos hna], rfl⟩⟩
set_option maxRecDepth 20000 in
theorem r_quotd (σ : Store) (B : Row) (r : Nat) (x : Int32) {n a : Nat} (hn7 : n ≤ 7) (ha9 : a ≤ 9) (hna : n ≠ a) : Ct ΛA mt_Ac_quotient 0 [.ref 0, .int x, .int (nI a - nI n)] (bS σ B r 0) (PF (pP n a x) (bS σ B r 0)) := by
  refine Ct.of (by decide) (Nat.le_of_ble_eq_true rfl) (fun X hR => ?_)
  show G (ΛA, mt_Ac_quotient, 0) X (bS σ B r 0) [some (.ref 0), some (.int x), some (.int (nI a - nI n))] [] 0
  refine g_iload_n (by decide +kernel : decode prog_2_method_4_code 0 = .ok (.iload_n 2, 1)) rfl ?_
  refine g_if_ne (tgt := 11) (by decide +kernel : decode prog_2_method_4_code 1 = .ok (.ifCond .ne 10, 3)) (by decide) (fun _ => ?_) (fun z => absurd ((nI_eq (by omega) (by omega)).mp (sub_z z)).symm hna)
  refine g_iload_n (by decide +kernel : decode prog_2_method_4_code 11 = .ok (.iload_n 1, 1)) rfl ?_
  refine g_iload_n (by decide +kernel : decode prog_2_method_4_code 12 = .ok (.iload_n 2, 1)) rfl ?_
  refine g_idiv (by decide +kernel : decode prog_2_method_4_code 13 = .ok (.idiv, 1)) (fun z => hna ((nI_eq (by omega) (by omega)).mp (sub_z z)).symm) ?_
  exact g_iret hR (by decide +kernel : decode prog_2_method_4_code 14 = .ok (.ireturn, 1)) rfl ⟨_, rfl, ⟨by unfold pP; rw [if_neg hna], rfl⟩⟩
set_option maxRecDepth 20000 in
theorem r_0_0_0 (σ : Store) (B : Row) (r : Nat) (x : Int32) {n a : Nat} (hk : σ 0 2 = nI 0) (hn : σ 0 3 = nI n) (ha : σ 0 4 = nI a) {d : Nat} (hd : d + 1 ≤ 12) (hr : r + 1 ≤ 30) : Ct ΛA mt_Ac_run 1 [.ref 0, .int (nI 0), .int (nI 0), .int x, .int (nI d)] (bS σ B r 0) (PF (x - nI (n * 2)) (bS σ (wl B r [nI 10]) (r + 1) 0)) := by
  refine Ct.of (by decide) (Nat.le_of_ble_eq_true rfl) (fun X hR => ?_)
  show G (ΛA, mt_Ac_run, 1) X (bS σ B r 0) [some (.ref 0), some (.int (nI 0)), some (.int (nI 0)), some (.int x), some (.int (nI d)), none, none, none] [] 0
  refine g_iload_n (by decide +kernel : decode prog_2_method_3_code 0 = .ok (.iload_n 1, 1)) rfl ?_
  refine g_iconst (v := nI 4) (by decide +kernel : decode prog_2_method_3_code 1 = .ok (.iconst 4, 1)) (by decide) ?_
  refine g_imulN (by decide +kernel : decode prog_2_method_3_code 2 = .ok (.imul, 1)) ?_
  refine g_iload_n (by decide +kernel : decode prog_2_method_3_code 3 = .ok (.iload_n 2, 1)) rfl ?_
  refine g_iadd (by decide +kernel : decode prog_2_method_3_code 4 = .ok (.iadd, 1)) ?_
  refine g_top (w := nI 0) (by decide) ?_
  refine g_istore (L' := [some (.ref 0), some (.int (nI 0)), some (.int (nI 0)), some (.int x), some (.int (nI d)), some (.int (nI 0)), none, none]) (by decide +kernel : decode prog_2_method_3_code 5 = .ok (.istore 5, 2)) (Nat.le_of_ble_eq_true rfl) rfl ?_
  refine g_iload (by decide +kernel : decode prog_2_method_3_code 7 = .ok (.iload 4, 2)) rfl ?_
  refine g_bipush (v := nI 12) (by decide +kernel : decode prog_2_method_3_code 9 = .ok (.bipush 12, 2)) (by decide) ?_
  refine g_icmp_gtN (tgt := 35) (by decide +kernel : decode prog_2_method_3_code 11 = .ok (.if_icmp .gt 24, 3)) (by decide) (by omega) (by decide) (fun h => absurd h (by omega)) (fun _ => ?_)
  refine g_aload_n (by decide +kernel : decode prog_2_method_3_code 14 = .ok (.aload_n 0, 1)) rfl ?_
  refine g_getI (by decide +kernel : decode prog_2_method_3_code 15 = .ok (.getfield 15, 3)) fl_Ac_15.get rfl rfl ?_
  refine g_top (w := nI 0) (rfl) ?_
  refine g_if_neN (tgt := 35) (by decide +kernel : decode prog_2_method_3_code 18 = .ok (.ifCond .ne 17, 3)) (by decide) (by decide) (fun h => False.elim (by revert h; decide)) (fun _ => ?_)
  refine g_iload (by decide +kernel : decode prog_2_method_3_code 21 = .ok (.iload 5, 2)) rfl ?_
  refine g_if_ltN (by decide +kernel : decode prog_2_method_3_code 23 = .ok (.ifCond .lt 12, 3)) (by decide) (by decide) ?_
  refine g_iload (by decide +kernel : decode prog_2_method_3_code 26 = .ok (.iload 5, 2)) rfl ?_
  refine g_gets (j := 3) (by decide +kernel : decode prog_2_method_3_code 28 = .ok (.getstatic 41, 3)) (by decide) sl_Ac_41 ?_
  refine g_rolen (j := 3) (by decide +kernel : decode prog_2_method_3_code 31 = .ok (.arraylength, 1)) (by decide) ?_
  refine g_icmp_ltN (tgt := 37) (by decide +kernel : decode prog_2_method_3_code 32 = .ok (.if_icmp .lt 5, 3)) (by decide) (by decide) (by decide) (fun _ => ?_) (fun h => absurd (by decide) h)
  refine g_gets (j := 3) (by decide +kernel : decode prog_2_method_3_code 37 = .ok (.getstatic 41, 3)) (by decide) sl_Ac_41 ?_
  refine g_iload (by decide +kernel : decode prog_2_method_3_code 40 = .ok (.iload 5, 2)) rfl ?_
  refine g_roload (j := 3) (a := 0) (by decide +kernel : decode prog_2_method_3_code 42 = .ok (.iaload, 1)) (by decide) rfl (by decide) ?_
  refine g_top (w := nI 10) (rfl) ?_
  refine g_istore (L' := [some (.ref 0), some (.int (nI 0)), some (.int (nI 0)), some (.int x), some (.int (nI d)), some (.int (nI 0)), some (.int (nI 10)), none]) (by decide +kernel : decode prog_2_method_3_code 43 = .ok (.istore 6, 2)) (Nat.le_of_ble_eq_true rfl) rfl ?_
  refine g_aload_n (by decide +kernel : decode prog_2_method_3_code 45 = .ok (.aload_n 0, 1)) rfl ?_
  refine g_getI (by decide +kernel : decode prog_2_method_3_code 46 = .ok (.getfield 44, 3)) fl_Ac_44.get rfl rfl ?_
  refine g_top (w := nI r) (rfl) ?_
  refine g_bipush (v := nI 30) (by decide +kernel : decode prog_2_method_3_code 49 = .ok (.bipush 30, 2)) (by decide) ?_
  refine g_icmp_geN (tgt := 72) (by decide +kernel : decode prog_2_method_3_code 51 = .ok (.if_icmp .ge 21, 3)) (by decide) (by omega) (by decide) (fun h => absurd h (by omega)) (fun _ => ?_)
  refine g_aload_n (by decide +kernel : decode prog_2_method_3_code 54 = .ok (.aload_n 0, 1)) rfl ?_
  refine g_getR (by decide +kernel : decode prog_2_method_3_code 55 = .ok (.getfield 9, 3)) fl_Ac_9 rfl rfl ?_
  refine g_aload_n (by decide +kernel : decode prog_2_method_3_code 58 = .ok (.aload_n 0, 1)) rfl ?_
  refine g_dup (by decide +kernel : decode prog_2_method_3_code 59 = .ok (.dup, 1)) rfl ?_
  refine g_getI (by decide +kernel : decode prog_2_method_3_code 60 = .ok (.getfield 44, 3)) fl_Ac_44.get rfl rfl ?_
  refine g_top (w := nI r) (rfl) ?_
  refine g_dup_x1 (by decide +kernel : decode prog_2_method_3_code 63 = .ok (.dup_x1, 1)) rfl rfl ?_
  refine g_iconst (v := nI 1) (by decide +kernel : decode prog_2_method_3_code 64 = .ok (.iconst 1, 1)) (by decide) ?_
  refine g_iaddN (by decide +kernel : decode prog_2_method_3_code 65 = .ok (.iadd, 1)) ?_
  refine g_putI (by decide +kernel : decode prog_2_method_3_code 66 = .ok (.putfield 44, 3)) fl_Ac_44 rfl rfl ?_
  refine g_sto (bS_r _ _ _ _ _) ?_
  refine g_iload (by decide +kernel : decode prog_2_method_3_code 69 = .ok (.iload 6, 2)) rfl ?_
  refine g_iastore (a := r) (by decide +kernel : decode prog_2_method_3_code 71 = .ok (.iastore, 1)) rfl rfl (by omega) (by decide) ?_
  refine g_sto (bS_1 _ _ _ _ _ _) ?_
  refine g_iload (by decide +kernel : decode prog_2_method_3_code 72 = .ok (.iload 4, 2)) rfl ?_
  refine g_iconst (v := nI 1) (by decide +kernel : decode prog_2_method_3_code 74 = .ok (.iconst 1, 1)) (by decide) ?_
  refine g_iaddN (by decide +kernel : decode prog_2_method_3_code 75 = .ok (.iadd, 1)) ?_
  refine g_istore (L' := [some (.ref 0), some (.int (nI 0)), some (.int (nI 0)), some (.int x), some (.int (nI d)), some (.int (nI 0)), some (.int (nI 10)), some (.int (nI (d + 1)))]) (by decide +kernel : decode prog_2_method_3_code 76 = .ok (.istore 7, 2)) (Nat.le_of_ble_eq_true rfl) rfl ?_
  refine g_iload (by decide +kernel : decode prog_2_method_3_code 78 = .ok (.iload 6, 2)) rfl ?_
  refine g_tableIn (x := nI 10) (off := 224) (tgt := 304) (by decide +kernel : decode prog_2_method_3_code 80 = .ok (.tableswitch 442 10 61 #[224, 233, 253, 268, 442, 442, 442, 442, 442, 442, 284, 442, 442, 442, 442, 442, 442, 442, 442, 442, 296, 308, 442, 442, 442, 442, 442, 442, 442, 442, 334, 346, 442, 442, 442, 442, 442, 442, 442, 442, 372, 389, 442, 442, 442, 442, 442, 442, 442, 442, 404, 416], 224)) (by decide) (by decide) rfl (by decide) ?_
  refine g_iload_n (by decide +kernel : decode prog_2_method_3_code 304 = .ok (.iload_n 3, 1)) rfl ?_
  refine g_aload_n (by decide +kernel : decode prog_2_method_3_code 305 = .ok (.aload_n 0, 1)) rfl ?_
  refine g_getI (by decide +kernel : decode prog_2_method_3_code 306 = .ok (.getfield 28, 3)) fl_Ac_28.get rfl rfl ?_
  refine g_top (w := nI n) (hn) ?_
  refine g_iconst (v := nI 2) (by decide +kernel : decode prog_2_method_3_code 309 = .ok (.iconst 2, 1)) (by decide) ?_
  refine g_imulN (by decide +kernel : decode prog_2_method_3_code 310 = .ok (.imul, 1)) ?_
  refine g_isub (by decide +kernel : decode prog_2_method_3_code 311 = .ok (.isub, 1)) ?_
  exact g_iret hR (by decide +kernel : decode prog_2_method_3_code 312 = .ok (.ireturn, 1)) rfl ⟨_, rfl, ⟨rfl, rfl⟩⟩
set_option maxRecDepth 20000 in
theorem r_0_0_1 (σ : Store) (B : Row) (r : Nat) (x : Int32) {n a : Nat} (hk : σ 0 2 = nI 0) (hn : σ 0 3 = nI n) (ha : σ 0 4 = nI a) {d : Nat} (hd : d + 2 ≤ 12) (hr : r + 2 ≤ 30) : Ct ΛA mt_Ac_run 2 [.ref 0, .int (nI 0), .int (nI 1), .int x, .int (nI d)] (bS σ B r 0) (PF ((x - nI (n * 2)) * nI 2 - nI a) (bS σ (wl B r [nI 11, nI 10]) (r + 2) 0)) := by
  refine Ct.of (by decide) (Nat.le_of_ble_eq_true rfl) (fun X hR => ?_)
  show G (ΛA, mt_Ac_run, 2) X (bS σ B r 0) [some (.ref 0), some (.int (nI 0)), some (.int (nI 1)), some (.int x), some (.int (nI d)), none, none, none] [] 0
  refine g_iload_n (by decide +kernel : decode prog_2_method_3_code 0 = .ok (.iload_n 1, 1)) rfl ?_
  refine g_iconst (v := nI 4) (by decide +kernel : decode prog_2_method_3_code 1 = .ok (.iconst 4, 1)) (by decide) ?_
  refine g_imulN (by decide +kernel : decode prog_2_method_3_code 2 = .ok (.imul, 1)) ?_
  refine g_iload_n (by decide +kernel : decode prog_2_method_3_code 3 = .ok (.iload_n 2, 1)) rfl ?_
  refine g_iadd (by decide +kernel : decode prog_2_method_3_code 4 = .ok (.iadd, 1)) ?_
  refine g_top (w := nI 1) (by decide) ?_
  refine g_istore (L' := [some (.ref 0), some (.int (nI 0)), some (.int (nI 1)), some (.int x), some (.int (nI d)), some (.int (nI 1)), none, none]) (by decide +kernel : decode prog_2_method_3_code 5 = .ok (.istore 5, 2)) (Nat.le_of_ble_eq_true rfl) rfl ?_
  refine g_iload (by decide +kernel : decode prog_2_method_3_code 7 = .ok (.iload 4, 2)) rfl ?_
  refine g_bipush (v := nI 12) (by decide +kernel : decode prog_2_method_3_code 9 = .ok (.bipush 12, 2)) (by decide) ?_
  refine g_icmp_gtN (tgt := 35) (by decide +kernel : decode prog_2_method_3_code 11 = .ok (.if_icmp .gt 24, 3)) (by decide) (by omega) (by decide) (fun h => absurd h (by omega)) (fun _ => ?_)
  refine g_aload_n (by decide +kernel : decode prog_2_method_3_code 14 = .ok (.aload_n 0, 1)) rfl ?_
  refine g_getI (by decide +kernel : decode prog_2_method_3_code 15 = .ok (.getfield 15, 3)) fl_Ac_15.get rfl rfl ?_
  refine g_top (w := nI 0) (rfl) ?_
  refine g_if_neN (tgt := 35) (by decide +kernel : decode prog_2_method_3_code 18 = .ok (.ifCond .ne 17, 3)) (by decide) (by decide) (fun h => False.elim (by revert h; decide)) (fun _ => ?_)
  refine g_iload (by decide +kernel : decode prog_2_method_3_code 21 = .ok (.iload 5, 2)) rfl ?_
  refine g_if_ltN (by decide +kernel : decode prog_2_method_3_code 23 = .ok (.ifCond .lt 12, 3)) (by decide) (by decide) ?_
  refine g_iload (by decide +kernel : decode prog_2_method_3_code 26 = .ok (.iload 5, 2)) rfl ?_
  refine g_gets (j := 3) (by decide +kernel : decode prog_2_method_3_code 28 = .ok (.getstatic 41, 3)) (by decide) sl_Ac_41 ?_
  refine g_rolen (j := 3) (by decide +kernel : decode prog_2_method_3_code 31 = .ok (.arraylength, 1)) (by decide) ?_
  refine g_icmp_ltN (tgt := 37) (by decide +kernel : decode prog_2_method_3_code 32 = .ok (.if_icmp .lt 5, 3)) (by decide) (by decide) (by decide) (fun _ => ?_) (fun h => absurd (by decide) h)
  refine g_gets (j := 3) (by decide +kernel : decode prog_2_method_3_code 37 = .ok (.getstatic 41, 3)) (by decide) sl_Ac_41 ?_
  refine g_iload (by decide +kernel : decode prog_2_method_3_code 40 = .ok (.iload 5, 2)) rfl ?_
  refine g_roload (j := 3) (a := 1) (by decide +kernel : decode prog_2_method_3_code 42 = .ok (.iaload, 1)) (by decide) rfl (by decide) ?_
  refine g_top (w := nI 11) (rfl) ?_
  refine g_istore (L' := [some (.ref 0), some (.int (nI 0)), some (.int (nI 1)), some (.int x), some (.int (nI d)), some (.int (nI 1)), some (.int (nI 11)), none]) (by decide +kernel : decode prog_2_method_3_code 43 = .ok (.istore 6, 2)) (Nat.le_of_ble_eq_true rfl) rfl ?_
  refine g_aload_n (by decide +kernel : decode prog_2_method_3_code 45 = .ok (.aload_n 0, 1)) rfl ?_
  refine g_getI (by decide +kernel : decode prog_2_method_3_code 46 = .ok (.getfield 44, 3)) fl_Ac_44.get rfl rfl ?_
  refine g_top (w := nI r) (rfl) ?_
  refine g_bipush (v := nI 30) (by decide +kernel : decode prog_2_method_3_code 49 = .ok (.bipush 30, 2)) (by decide) ?_
  refine g_icmp_geN (tgt := 72) (by decide +kernel : decode prog_2_method_3_code 51 = .ok (.if_icmp .ge 21, 3)) (by decide) (by omega) (by decide) (fun h => absurd h (by omega)) (fun _ => ?_)
  refine g_aload_n (by decide +kernel : decode prog_2_method_3_code 54 = .ok (.aload_n 0, 1)) rfl ?_
  refine g_getR (by decide +kernel : decode prog_2_method_3_code 55 = .ok (.getfield 9, 3)) fl_Ac_9 rfl rfl ?_
  refine g_aload_n (by decide +kernel : decode prog_2_method_3_code 58 = .ok (.aload_n 0, 1)) rfl ?_
  refine g_dup (by decide +kernel : decode prog_2_method_3_code 59 = .ok (.dup, 1)) rfl ?_
  refine g_getI (by decide +kernel : decode prog_2_method_3_code 60 = .ok (.getfield 44, 3)) fl_Ac_44.get rfl rfl ?_
  refine g_top (w := nI r) (rfl) ?_
  refine g_dup_x1 (by decide +kernel : decode prog_2_method_3_code 63 = .ok (.dup_x1, 1)) rfl rfl ?_
  refine g_iconst (v := nI 1) (by decide +kernel : decode prog_2_method_3_code 64 = .ok (.iconst 1, 1)) (by decide) ?_
  refine g_iaddN (by decide +kernel : decode prog_2_method_3_code 65 = .ok (.iadd, 1)) ?_
  refine g_putI (by decide +kernel : decode prog_2_method_3_code 66 = .ok (.putfield 44, 3)) fl_Ac_44 rfl rfl ?_
  refine g_sto (bS_r _ _ _ _ _) ?_
  refine g_iload (by decide +kernel : decode prog_2_method_3_code 69 = .ok (.iload 6, 2)) rfl ?_
  refine g_iastore (a := r) (by decide +kernel : decode prog_2_method_3_code 71 = .ok (.iastore, 1)) rfl rfl (by omega) (by decide) ?_
  refine g_sto (bS_1 _ _ _ _ _ _) ?_
  refine g_iload (by decide +kernel : decode prog_2_method_3_code 72 = .ok (.iload 4, 2)) rfl ?_
  refine g_iconst (v := nI 1) (by decide +kernel : decode prog_2_method_3_code 74 = .ok (.iconst 1, 1)) (by decide) ?_
  refine g_iaddN (by decide +kernel : decode prog_2_method_3_code 75 = .ok (.iadd, 1)) ?_
  refine g_istore (L' := [some (.ref 0), some (.int (nI 0)), some (.int (nI 1)), some (.int x), some (.int (nI d)), some (.int (nI 1)), some (.int (nI 11)), some (.int (nI (d + 1)))]) (by decide +kernel : decode prog_2_method_3_code 76 = .ok (.istore 7, 2)) (Nat.le_of_ble_eq_true rfl) rfl ?_
  refine g_iload (by decide +kernel : decode prog_2_method_3_code 78 = .ok (.iload 6, 2)) rfl ?_
  refine g_tableIn (x := nI 11) (off := 233) (tgt := 313) (by decide +kernel : decode prog_2_method_3_code 80 = .ok (.tableswitch 442 10 61 #[224, 233, 253, 268, 442, 442, 442, 442, 442, 442, 284, 442, 442, 442, 442, 442, 442, 442, 442, 442, 296, 308, 442, 442, 442, 442, 442, 442, 442, 442, 334, 346, 442, 442, 442, 442, 442, 442, 442, 442, 372, 389, 442, 442, 442, 442, 442, 442, 442, 442, 404, 416], 224)) (by decide) (by decide) rfl (by decide) ?_
  refine g_aload_n (by decide +kernel : decode prog_2_method_3_code 313 = .ok (.aload_n 0, 1)) rfl ?_
  refine g_aload_n (by decide +kernel : decode prog_2_method_3_code 314 = .ok (.aload_n 0, 1)) rfl ?_
  refine g_getI (by decide +kernel : decode prog_2_method_3_code 315 = .ok (.getfield 24, 3)) fl_Ac_24.get rfl rfl ?_
  refine g_top (w := nI 0) (hk) ?_
  refine g_iconst (v := nI 0) (by decide +kernel : decode prog_2_method_3_code 318 = .ok (.iconst 0, 1)) (by decide) ?_
  refine g_iload_n (by decide +kernel : decode prog_2_method_3_code 319 = .ok (.iload_n 3, 1)) rfl ?_
  refine g_iload (by decide +kernel : decode prog_2_method_3_code 320 = .ok (.iload 7, 2)) rfl ?_
  refine g_callVI [.int (nI 0), .int (nI 0), .int x, .int (nI (d + 1))] (by decide +kernel : decode prog_2_method_3_code 322 = .ok (.invokevirtual 37, 3)) lk_Ac_37 (r_0_0_0 σ (upd B r (nI 11)) (r + 1) (x) hk hn ha (d := (d + 1)) (by omega) (by omega)) rfl rfl rfl rfl (Nat.le_of_ble_eq_true rfl) (Nat.le_of_ble_eq_true rfl) (fun r322 s322 h322 => ?_)
  obtain ⟨rfl, rfl⟩ := h322
  refine g_iconst (v := nI 2) (by decide +kernel : decode prog_2_method_3_code 325 = .ok (.iconst 2, 1)) (by decide) ?_
  refine g_imul (by decide +kernel : decode prog_2_method_3_code 326 = .ok (.imul, 1)) ?_
  refine g_aload_n (by decide +kernel : decode prog_2_method_3_code 327 = .ok (.aload_n 0, 1)) rfl ?_
  refine g_getI (by decide +kernel : decode prog_2_method_3_code 328 = .ok (.getfield 34, 3)) fl_Ac_34.get rfl rfl ?_
  refine g_top (w := nI a) (ha) ?_
  refine g_isub (by decide +kernel : decode prog_2_method_3_code 331 = .ok (.isub, 1)) ?_
  exact g_iret hR (by decide +kernel : decode prog_2_method_3_code 332 = .ok (.ireturn, 1)) rfl ⟨_, rfl, ⟨rfl, rfl⟩⟩
set_option maxRecDepth 20000 in
theorem r_0_0_2e (σ : Store) (B : Row) (r : Nat) (x : Int32) {n a : Nat} (hk : σ 0 2 = nI 0) (hn : σ 0 3 = nI n) (ha : σ 0 4 = nI a) {d : Nat} (hd : d + 1 ≤ 12) (hr : r + 1 ≤ 30) (hn7 : n ≤ 7) (ha9 : a ≤ 9) (hna : n = a) : Ct ΛA mt_Ac_run 1 [.ref 0, .int (nI 0), .int (nI 2), .int x, .int (nI d)] (bS σ B r 0) (PF (pP n a x) (bS σ (wl B r [nI 12]) (r + 1) 1)) := by
  refine Ct.of (by decide) (Nat.le_of_ble_eq_true rfl) (fun X hR => ?_)
  show G (ΛA, mt_Ac_run, 1) X (bS σ B r 0) [some (.ref 0), some (.int (nI 0)), some (.int (nI 2)), some (.int x), some (.int (nI d)), none, none, none] [] 0
  refine g_iload_n (by decide +kernel : decode prog_2_method_3_code 0 = .ok (.iload_n 1, 1)) rfl ?_
  refine g_iconst (v := nI 4) (by decide +kernel : decode prog_2_method_3_code 1 = .ok (.iconst 4, 1)) (by decide) ?_
  refine g_imulN (by decide +kernel : decode prog_2_method_3_code 2 = .ok (.imul, 1)) ?_
  refine g_iload_n (by decide +kernel : decode prog_2_method_3_code 3 = .ok (.iload_n 2, 1)) rfl ?_
  refine g_iadd (by decide +kernel : decode prog_2_method_3_code 4 = .ok (.iadd, 1)) ?_
  refine g_top (w := nI 2) (by decide) ?_
  refine g_istore (L' := [some (.ref 0), some (.int (nI 0)), some (.int (nI 2)), some (.int x), some (.int (nI d)), some (.int (nI 2)), none, none]) (by decide +kernel : decode prog_2_method_3_code 5 = .ok (.istore 5, 2)) (Nat.le_of_ble_eq_true rfl) rfl ?_
  refine g_iload (by decide +kernel : decode prog_2_method_3_code 7 = .ok (.iload 4, 2)) rfl ?_
  refine g_bipush (v := nI 12) (by decide +kernel : decode prog_2_method_3_code 9 = .ok (.bipush 12, 2)) (by decide) ?_
  refine g_icmp_gtN (tgt := 35) (by decide +kernel : decode prog_2_method_3_code 11 = .ok (.if_icmp .gt 24, 3)) (by decide) (by omega) (by decide) (fun h => absurd h (by omega)) (fun _ => ?_)
  refine g_aload_n (by decide +kernel : decode prog_2_method_3_code 14 = .ok (.aload_n 0, 1)) rfl ?_
  refine g_getI (by decide +kernel : decode prog_2_method_3_code 15 = .ok (.getfield 15, 3)) fl_Ac_15.get rfl rfl ?_
  refine g_top (w := nI 0) (rfl) ?_
  refine g_if_neN (tgt := 35) (by decide +kernel : decode prog_2_method_3_code 18 = .ok (.ifCond .ne 17, 3)) (by decide) (by decide) (fun h => False.elim (by revert h; decide)) (fun _ => ?_)
  refine g_iload (by decide +kernel : decode prog_2_method_3_code 21 = .ok (.iload 5, 2)) rfl ?_
  refine g_if_ltN (by decide +kernel : decode prog_2_method_3_code 23 = .ok (.ifCond .lt 12, 3)) (by decide) (by decide) ?_
  refine g_iload (by decide +kernel : decode prog_2_method_3_code 26 = .ok (.iload 5, 2)) rfl ?_
  refine g_gets (j := 3) (by decide +kernel : decode prog_2_method_3_code 28 = .ok (.getstatic 41, 3)) (by decide) sl_Ac_41 ?_
  refine g_rolen (j := 3) (by decide +kernel : decode prog_2_method_3_code 31 = .ok (.arraylength, 1)) (by decide) ?_
  refine g_icmp_ltN (tgt := 37) (by decide +kernel : decode prog_2_method_3_code 32 = .ok (.if_icmp .lt 5, 3)) (by decide) (by decide) (by decide) (fun _ => ?_) (fun h => absurd (by decide) h)
  refine g_gets (j := 3) (by decide +kernel : decode prog_2_method_3_code 37 = .ok (.getstatic 41, 3)) (by decide) sl_Ac_41 ?_
  refine g_iload (by decide +kernel : decode prog_2_method_3_code 40 = .ok (.iload 5, 2)) rfl ?_
  refine g_roload (j := 3) (a := 2) (by decide +kernel : decode prog_2_method_3_code 42 = .ok (.iaload, 1)) (by decide) rfl (by decide) ?_
  refine g_top (w := nI 12) (rfl) ?_
  refine g_istore (L' := [some (.ref 0), some (.int (nI 0)), some (.int (nI 2)), some (.int x), some (.int (nI d)), some (.int (nI 2)), some (.int (nI 12)), none]) (by decide +kernel : decode prog_2_method_3_code 43 = .ok (.istore 6, 2)) (Nat.le_of_ble_eq_true rfl) rfl ?_
  refine g_aload_n (by decide +kernel : decode prog_2_method_3_code 45 = .ok (.aload_n 0, 1)) rfl ?_
  refine g_getI (by decide +kernel : decode prog_2_method_3_code 46 = .ok (.getfield 44, 3)) fl_Ac_44.get rfl rfl ?_
  refine g_top (w := nI r) (rfl) ?_
  refine g_bipush (v := nI 30) (by decide +kernel : decode prog_2_method_3_code 49 = .ok (.bipush 30, 2)) (by decide) ?_
  refine g_icmp_geN (tgt := 72) (by decide +kernel : decode prog_2_method_3_code 51 = .ok (.if_icmp .ge 21, 3)) (by decide) (by omega) (by decide) (fun h => absurd h (by omega)) (fun _ => ?_)
  refine g_aload_n (by decide +kernel : decode prog_2_method_3_code 54 = .ok (.aload_n 0, 1)) rfl ?_
  refine g_getR (by decide +kernel : decode prog_2_method_3_code 55 = .ok (.getfield 9, 3)) fl_Ac_9 rfl rfl ?_
  refine g_aload_n (by decide +kernel : decode prog_2_method_3_code 58 = .ok (.aload_n 0, 1)) rfl ?_
  refine g_dup (by decide +kernel : decode prog_2_method_3_code 59 = .ok (.dup, 1)) rfl ?_
  refine g_getI (by decide +kernel : decode prog_2_method_3_code 60 = .ok (.getfield 44, 3)) fl_Ac_44.get rfl rfl ?_
  refine g_top (w := nI r) (rfl) ?_
  refine g_dup_x1 (by decide +kernel : decode prog_2_method_3_code 63 = .ok (.dup_x1, 1)) rfl rfl ?_
  refine g_iconst (v := nI 1) (by decide +kernel : decode prog_2_method_3_code 64 = .ok (.iconst 1, 1)) (by decide) ?_
  refine g_iaddN (by decide +kernel : decode prog_2_method_3_code 65 = .ok (.iadd, 1)) ?_
  refine g_putI (by decide +kernel : decode prog_2_method_3_code 66 = .ok (.putfield 44, 3)) fl_Ac_44 rfl rfl ?_
  refine g_sto (bS_r _ _ _ _ _) ?_
  refine g_iload (by decide +kernel : decode prog_2_method_3_code 69 = .ok (.iload 6, 2)) rfl ?_
  refine g_iastore (a := r) (by decide +kernel : decode prog_2_method_3_code 71 = .ok (.iastore, 1)) rfl rfl (by omega) (by decide) ?_
  refine g_sto (bS_1 _ _ _ _ _ _) ?_
  refine g_iload (by decide +kernel : decode prog_2_method_3_code 72 = .ok (.iload 4, 2)) rfl ?_
  refine g_iconst (v := nI 1) (by decide +kernel : decode prog_2_method_3_code 74 = .ok (.iconst 1, 1)) (by decide) ?_
  refine g_iaddN (by decide +kernel : decode prog_2_method_3_code 75 = .ok (.iadd, 1)) ?_
  refine g_istore (L' := [some (.ref 0), some (.int (nI 0)), some (.int (nI 2)), some (.int x), some (.int (nI d)), some (.int (nI 2)), some (.int (nI 12)), some (.int (nI (d + 1)))]) (by decide +kernel : decode prog_2_method_3_code 76 = .ok (.istore 7, 2)) (Nat.le_of_ble_eq_true rfl) rfl ?_
  refine g_iload (by decide +kernel : decode prog_2_method_3_code 78 = .ok (.iload 6, 2)) rfl ?_
  refine g_tableIn (x := nI 12) (off := 253) (tgt := 333) (by decide +kernel : decode prog_2_method_3_code 80 = .ok (.tableswitch 442 10 61 #[224, 233, 253, 268, 442, 442, 442, 442, 442, 442, 284, 442, 442, 442, 442, 442, 442, 442, 442, 442, 296, 308, 442, 442, 442, 442, 442, 442, 442, 442, 334, 346, 442, 442, 442, 442, 442, 442, 442, 442, 372, 389, 442, 442, 442, 442, 442, 442, 442, 442, 404, 416], 224)) (by decide) (by decide) rfl (by decide) ?_
  refine g_aload_n (by decide +kernel : decode prog_2_method_3_code 333 = .ok (.aload_n 0, 1)) rfl ?_
  refine g_iload_n (by decide +kernel : decode prog_2_method_3_code 334 = .ok (.iload_n 3, 1)) rfl ?_
  refine g_aload_n (by decide +kernel : decode prog_2_method_3_code 335 = .ok (.aload_n 0, 1)) rfl ?_
  refine g_getI (by decide +kernel : decode prog_2_method_3_code 336 = .ok (.getfield 34, 3)) fl_Ac_34.get rfl rfl ?_
  refine g_top (w := nI a) (ha) ?_
  refine g_aload_n (by decide +kernel : decode prog_2_method_3_code 339 = .ok (.aload_n 0, 1)) rfl ?_
  refine g_getI (by decide +kernel : decode prog_2_method_3_code 340 = .ok (.getfield 28, 3)) fl_Ac_28.get rfl rfl ?_
  refine g_top (w := nI n) (hn) ?_
  refine g_isub (by decide +kernel : decode prog_2_method_3_code 343 = .ok (.isub, 1)) ?_
  refine g_callVI [.int x, .int ((nI a) - (nI n))] (by decide +kernel : decode prog_2_method_3_code 344 = .ok (.invokevirtual 47, 3)) lk_Ac_47 (r_quote σ (upd B r (nI 12)) (r + 1) (x) hn7 ha9 hna) rfl rfl rfl rfl (Nat.le_of_ble_eq_true rfl) (Nat.le_of_ble_eq_true rfl) (fun r344 s344 h344 => ?_)
  obtain ⟨rfl, rfl⟩ := h344
  exact g_iret hR (by decide +kernel : decode prog_2_method_3_code 347 = .ok (.ireturn, 1)) rfl ⟨_, rfl, ⟨rfl, rfl⟩⟩
set_option maxRecDepth 20000 in
theorem r_0_0_2d (σ : Store) (B : Row) (r : Nat) (x : Int32) {n a : Nat} (hk : σ 0 2 = nI 0) (hn : σ 0 3 = nI n) (ha : σ 0 4 = nI a) {d : Nat} (hd : d + 1 ≤ 12) (hr : r + 1 ≤ 30) (hn7 : n ≤ 7) (ha9 : a ≤ 9) (hna : n ≠ a) : Ct ΛA mt_Ac_run 1 [.ref 0, .int (nI 0), .int (nI 2), .int x, .int (nI d)] (bS σ B r 0) (PF (pP n a x) (bS σ (wl B r [nI 12]) (r + 1) 0)) := by
  refine Ct.of (by decide) (Nat.le_of_ble_eq_true rfl) (fun X hR => ?_)
  show G (ΛA, mt_Ac_run, 1) X (bS σ B r 0) [some (.ref 0), some (.int (nI 0)), some (.int (nI 2)), some (.int x), some (.int (nI d)), none, none, none] [] 0
  refine g_iload_n (by decide +kernel : decode prog_2_method_3_code 0 = .ok (.iload_n 1, 1)) rfl ?_
  refine g_iconst (v := nI 4) (by decide +kernel : decode prog_2_method_3_code 1 = .ok (.iconst 4, 1)) (by decide) ?_
  refine g_imulN (by decide +kernel : decode prog_2_method_3_code 2 = .ok (.imul, 1)) ?_
  refine g_iload_n (by decide +kernel : decode prog_2_method_3_code 3 = .ok (.iload_n 2, 1)) rfl ?_
  refine g_iadd (by decide +kernel : decode prog_2_method_3_code 4 = .ok (.iadd, 1)) ?_
  refine g_top (w := nI 2) (by decide) ?_
  refine g_istore (L' := [some (.ref 0), some (.int (nI 0)), some (.int (nI 2)), some (.int x), some (.int (nI d)), some (.int (nI 2)), none, none]) (by decide +kernel : decode prog_2_method_3_code 5 = .ok (.istore 5, 2)) (Nat.le_of_ble_eq_true rfl) rfl ?_
  refine g_iload (by decide +kernel : decode prog_2_method_3_code 7 = .ok (.iload 4, 2)) rfl ?_
  refine g_bipush (v := nI 12) (by decide +kernel : decode prog_2_method_3_code 9 = .ok (.bipush 12, 2)) (by decide) ?_
  refine g_icmp_gtN (tgt := 35) (by decide +kernel : decode prog_2_method_3_code 11 = .ok (.if_icmp .gt 24, 3)) (by decide) (by omega) (by decide) (fun h => absurd h (by omega)) (fun _ => ?_)
  refine g_aload_n (by decide +kernel : decode prog_2_method_3_code 14 = .ok (.aload_n 0, 1)) rfl ?_
  refine g_getI (by decide +kernel : decode prog_2_method_3_code 15 = .ok (.getfield 15, 3)) fl_Ac_15.get rfl rfl ?_
  refine g_top (w := nI 0) (rfl) ?_
  refine g_if_neN (tgt := 35) (by decide +kernel : decode prog_2_method_3_code 18 = .ok (.ifCond .ne 17, 3)) (by decide) (by decide) (fun h => False.elim (by revert h; decide)) (fun _ => ?_)
  refine g_iload (by decide +kernel : decode prog_2_method_3_code 21 = .ok (.iload 5, 2)) rfl ?_
  refine g_if_ltN (by decide +kernel : decode prog_2_method_3_code 23 = .ok (.ifCond .lt 12, 3)) (by decide) (by decide) ?_
  refine g_iload (by decide +kernel : decode prog_2_method_3_code 26 = .ok (.iload 5, 2)) rfl ?_
  refine g_gets (j := 3) (by decide +kernel : decode prog_2_method_3_code 28 = .ok (.getstatic 41, 3)) (by decide) sl_Ac_41 ?_
  refine g_rolen (j := 3) (by decide +kernel : decode prog_2_method_3_code 31 = .ok (.arraylength, 1)) (by decide) ?_
  refine g_icmp_ltN (tgt := 37) (by decide +kernel : decode prog_2_method_3_code 32 = .ok (.if_icmp .lt 5, 3)) (by decide) (by decide) (by decide) (fun _ => ?_) (fun h => absurd (by decide) h)
  refine g_gets (j := 3) (by decide +kernel : decode prog_2_method_3_code 37 = .ok (.getstatic 41, 3)) (by decide) sl_Ac_41 ?_
  refine g_iload (by decide +kernel : decode prog_2_method_3_code 40 = .ok (.iload 5, 2)) rfl ?_
  refine g_roload (j := 3) (a := 2) (by decide +kernel : decode prog_2_method_3_code 42 = .ok (.iaload, 1)) (by decide) rfl (by decide) ?_
  refine g_top (w := nI 12) (rfl) ?_
  refine g_istore (L' := [some (.ref 0), some (.int (nI 0)), some (.int (nI 2)), some (.int x), some (.int (nI d)), some (.int (nI 2)), some (.int (nI 12)), none]) (by decide +kernel : decode prog_2_method_3_code 43 = .ok (.istore 6, 2)) (Nat.le_of_ble_eq_true rfl) rfl ?_
  refine g_aload_n (by decide +kernel : decode prog_2_method_3_code 45 = .ok (.aload_n 0, 1)) rfl ?_
  refine g_getI (by decide +kernel : decode prog_2_method_3_code 46 = .ok (.getfield 44, 3)) fl_Ac_44.get rfl rfl ?_
  refine g_top (w := nI r) (rfl) ?_
  refine g_bipush (v := nI 30) (by decide +kernel : decode prog_2_method_3_code 49 = .ok (.bipush 30, 2)) (by decide) ?_
  refine g_icmp_geN (tgt := 72) (by decide +kernel : decode prog_2_method_3_code 51 = .ok (.if_icmp .ge 21, 3)) (by decide) (by omega) (by decide) (fun h => absurd h (by omega)) (fun _ => ?_)
  refine g_aload_n (by decide +kernel : decode prog_2_method_3_code 54 = .ok (.aload_n 0, 1)) rfl ?_
  refine g_getR (by decide +kernel : decode prog_2_method_3_code 55 = .ok (.getfield 9, 3)) fl_Ac_9 rfl rfl ?_
  refine g_aload_n (by decide +kernel : decode prog_2_method_3_code 58 = .ok (.aload_n 0, 1)) rfl ?_
  refine g_dup (by decide +kernel : decode prog_2_method_3_code 59 = .ok (.dup, 1)) rfl ?_
  refine g_getI (by decide +kernel : decode prog_2_method_3_code 60 = .ok (.getfield 44, 3)) fl_Ac_44.get rfl rfl ?_
  refine g_top (w := nI r) (rfl) ?_
  refine g_dup_x1 (by decide +kernel : decode prog_2_method_3_code 63 = .ok (.dup_x1, 1)) rfl rfl ?_
  refine g_iconst (v := nI 1) (by decide +kernel : decode prog_2_method_3_code 64 = .ok (.iconst 1, 1)) (by decide) ?_
  refine g_iaddN (by decide +kernel : decode prog_2_method_3_code 65 = .ok (.iadd, 1)) ?_
  refine g_putI (by decide +kernel : decode prog_2_method_3_code 66 = .ok (.putfield 44, 3)) fl_Ac_44 rfl rfl ?_
  refine g_sto (bS_r _ _ _ _ _) ?_
  refine g_iload (by decide +kernel : decode prog_2_method_3_code 69 = .ok (.iload 6, 2)) rfl ?_
  refine g_iastore (a := r) (by decide +kernel : decode prog_2_method_3_code 71 = .ok (.iastore, 1)) rfl rfl (by omega) (by decide) ?_
  refine g_sto (bS_1 _ _ _ _ _ _) ?_
  refine g_iload (by decide +kernel : decode prog_2_method_3_code 72 = .ok (.iload 4, 2)) rfl ?_
  refine g_iconst (v := nI 1) (by decide +kernel : decode prog_2_method_3_code 74 = .ok (.iconst 1, 1)) (by decide) ?_
  refine g_iaddN (by decide +kernel : decode prog_2_method_3_code 75 = .ok (.iadd, 1)) ?_
  refine g_istore (L' := [some (.ref 0), some (.int (nI 0)), some (.int (nI 2)), some (.int x), some (.int (nI d)), some (.int (nI 2)), some (.int (nI 12)), some (.int (nI (d + 1)))]) (by decide +kernel : decode prog_2_method_3_code 76 = .ok (.istore 7, 2)) (Nat.le_of_ble_eq_true rfl) rfl ?_
  refine g_iload (by decide +kernel : decode prog_2_method_3_code 78 = .ok (.iload 6, 2)) rfl ?_
  refine g_tableIn (x := nI 12) (off := 253) (tgt := 333) (by decide +kernel : decode prog_2_method_3_code 80 = .ok (.tableswitch 442 10 61 #[224, 233, 253, 268, 442, 442, 442, 442, 442, 442, 284, 442, 442, 442, 442, 442, 442, 442, 442, 442, 296, 308, 442, 442, 442, 442, 442, 442, 442, 442, 334, 346, 442, 442, 442, 442, 442, 442, 442, 442, 372, 389, 442, 442, 442, 442, 442, 442, 442, 442, 404, 416], 224)) (by decide) (by decide) rfl (by decide) ?_
  refine g_aload_n (by decide +kernel : decode prog_2_method_3_code 333 = .ok (.aload_n 0, 1)) rfl ?_
  refine g_iload_n (by decide +kernel : decode prog_2_method_3_code 334 = .ok (.iload_n 3, 1)) rfl ?_
  refine g_aload_n (by decide +kernel : decode prog_2_method_3_code 335 = .ok (.aload_n 0, 1)) rfl ?_
  refine g_getI (by decide +kernel : decode prog_2_method_3_code 336 = .ok (.getfield 34, 3)) fl_Ac_34.get rfl rfl ?_
  refine g_top (w := nI a) (ha) ?_
  refine g_aload_n (by decide +kernel : decode prog_2_method_3_code 339 = .ok (.aload_n 0, 1)) rfl ?_
  refine g_getI (by decide +kernel : decode prog_2_method_3_code 340 = .ok (.getfield 28, 3)) fl_Ac_28.get rfl rfl ?_
  refine g_top (w := nI n) (hn) ?_
  refine g_isub (by decide +kernel : decode prog_2_method_3_code 343 = .ok (.isub, 1)) ?_
  refine g_callVI [.int x, .int ((nI a) - (nI n))] (by decide +kernel : decode prog_2_method_3_code 344 = .ok (.invokevirtual 47, 3)) lk_Ac_47 (r_quotd σ (upd B r (nI 12)) (r + 1) (x) hn7 ha9 hna) rfl rfl rfl rfl (Nat.le_of_ble_eq_true rfl) (Nat.le_of_ble_eq_true rfl) (fun r344 s344 h344 => ?_)
  obtain ⟨rfl, rfl⟩ := h344
  exact g_iret hR (by decide +kernel : decode prog_2_method_3_code 347 = .ok (.ireturn, 1)) rfl ⟨_, rfl, ⟨rfl, rfl⟩⟩
set_option maxRecDepth 20000 in
theorem r_0_0_3 (σ : Store) (B : Row) (r : Nat) (x : Int32) {n a : Nat} (hk : σ 0 2 = nI 0) (hn : σ 0 3 = nI n) (ha : σ 0 4 = nI a) {d : Nat} (hd : d + 3 ≤ 12) (hr : r + 3 ≤ 30) : Ct ΛA mt_Ac_run 3 [.ref 0, .int (nI 0), .int (nI 3), .int x, .int (nI d)] (bS σ B r 0) (PF (((x - nI (n * 2)) * nI 2 - nI a) ^^^ nI 12) (bS σ (wl B r [nI 13, nI 11, nI 10]) (r + 3) 0)) := by
  refine Ct.of (by decide) (Nat.le_of_ble_eq_true rfl) (fun X hR => ?_)
  show G (ΛA, mt_Ac_run, 3) X (bS σ B r 0) [some (.ref 0), some (.int (nI 0)), some (.int (nI 3)), some (.int x), some (.int (nI d)), none, none, none] [] 0
  refine g_iload_n (by decide +kernel : decode prog_2_method_3_code 0 = .ok (.iload_n 1, 1)) rfl ?_
  refine g_iconst (v := nI 4) (by decide +kernel : decode prog_2_method_3_code 1 = .ok (.iconst 4, 1)) (by decide) ?_
  refine g_imulN (by decide +kernel : decode prog_2_method_3_code 2 = .ok (.imul, 1)) ?_
  refine g_iload_n (by decide +kernel : decode prog_2_method_3_code 3 = .ok (.iload_n 2, 1)) rfl ?_
  refine g_iadd (by decide +kernel : decode prog_2_method_3_code 4 = .ok (.iadd, 1)) ?_
  refine g_top (w := nI 3) (by decide) ?_
  refine g_istore (L' := [some (.ref 0), some (.int (nI 0)), some (.int (nI 3)), some (.int x), some (.int (nI d)), some (.int (nI 3)), none, none]) (by decide +kernel : decode prog_2_method_3_code 5 = .ok (.istore 5, 2)) (Nat.le_of_ble_eq_true rfl) rfl ?_
  refine g_iload (by decide +kernel : decode prog_2_method_3_code 7 = .ok (.iload 4, 2)) rfl ?_
  refine g_bipush (v := nI 12) (by decide +kernel : decode prog_2_method_3_code 9 = .ok (.bipush 12, 2)) (by decide) ?_
  refine g_icmp_gtN (tgt := 35) (by decide +kernel : decode prog_2_method_3_code 11 = .ok (.if_icmp .gt 24, 3)) (by decide) (by omega) (by decide) (fun h => absurd h (by omega)) (fun _ => ?_)
  refine g_aload_n (by decide +kernel : decode prog_2_method_3_code 14 = .ok (.aload_n 0, 1)) rfl ?_
  refine g_getI (by decide +kernel : decode prog_2_method_3_code 15 = .ok (.getfield 15, 3)) fl_Ac_15.get rfl rfl ?_
  refine g_top (w := nI 0) (rfl) ?_
  refine g_if_neN (tgt := 35) (by decide +kernel : decode prog_2_method_3_code 18 = .ok (.ifCond .ne 17, 3)) (by decide) (by decide) (fun h => False.elim (by revert h; decide)) (fun _ => ?_)
  refine g_iload (by decide +kernel : decode prog_2_method_3_code 21 = .ok (.iload 5, 2)) rfl ?_
  refine g_if_ltN (by decide +kernel : decode prog_2_method_3_code 23 = .ok (.ifCond .lt 12, 3)) (by decide) (by decide) ?_
  refine g_iload (by decide +kernel : decode prog_2_method_3_code 26 = .ok (.iload 5, 2)) rfl ?_
  refine g_gets (j := 3) (by decide +kernel : decode prog_2_method_3_code 28 = .ok (.getstatic 41, 3)) (by decide) sl_Ac_41 ?_
  refine g_rolen (j := 3) (by decide +kernel : decode prog_2_method_3_code 31 = .ok (.arraylength, 1)) (by decide) ?_
  refine g_icmp_ltN (tgt := 37) (by decide +kernel : decode prog_2_method_3_code 32 = .ok (.if_icmp .lt 5, 3)) (by decide) (by decide) (by decide) (fun _ => ?_) (fun h => absurd (by decide) h)
  refine g_gets (j := 3) (by decide +kernel : decode prog_2_method_3_code 37 = .ok (.getstatic 41, 3)) (by decide) sl_Ac_41 ?_
  refine g_iload (by decide +kernel : decode prog_2_method_3_code 40 = .ok (.iload 5, 2)) rfl ?_
  refine g_roload (j := 3) (a := 3) (by decide +kernel : decode prog_2_method_3_code 42 = .ok (.iaload, 1)) (by decide) rfl (by decide) ?_
  refine g_top (w := nI 13) (rfl) ?_
  refine g_istore (L' := [some (.ref 0), some (.int (nI 0)), some (.int (nI 3)), some (.int x), some (.int (nI d)), some (.int (nI 3)), some (.int (nI 13)), none]) (by decide +kernel : decode prog_2_method_3_code 43 = .ok (.istore 6, 2)) (Nat.le_of_ble_eq_true rfl) rfl ?_
  refine g_aload_n (by decide +kernel : decode prog_2_method_3_code 45 = .ok (.aload_n 0, 1)) rfl ?_
  refine g_getI (by decide +kernel : decode prog_2_method_3_code 46 = .ok (.getfield 44, 3)) fl_Ac_44.get rfl rfl ?_
  refine g_top (w := nI r) (rfl) ?_
  refine g_bipush (v := nI 30) (by decide +kernel : decode prog_2_method_3_code 49 = .ok (.bipush 30, 2)) (by decide) ?_
  refine g_icmp_geN (tgt := 72) (by decide +kernel : decode prog_2_method_3_code 51 = .ok (.if_icmp .ge 21, 3)) (by decide) (by omega) (by decide) (fun h => absurd h (by omega)) (fun _ => ?_)
  refine g_aload_n (by decide +kernel : decode prog_2_method_3_code 54 = .ok (.aload_n 0, 1)) rfl ?_
  refine g_getR (by decide +kernel : decode prog_2_method_3_code 55 = .ok (.getfield 9, 3)) fl_Ac_9 rfl rfl ?_
  refine g_aload_n (by decide +kernel : decode prog_2_method_3_code 58 = .ok (.aload_n 0, 1)) rfl ?_
  refine g_dup (by decide +kernel : decode prog_2_method_3_code 59 = .ok (.dup, 1)) rfl ?_
  refine g_getI (by decide +kernel : decode prog_2_method_3_code 60 = .ok (.getfield 44, 3)) fl_Ac_44.get rfl rfl ?_
  refine g_top (w := nI r) (rfl) ?_
  refine g_dup_x1 (by decide +kernel : decode prog_2_method_3_code 63 = .ok (.dup_x1, 1)) rfl rfl ?_
  refine g_iconst (v := nI 1) (by decide +kernel : decode prog_2_method_3_code 64 = .ok (.iconst 1, 1)) (by decide) ?_
  refine g_iaddN (by decide +kernel : decode prog_2_method_3_code 65 = .ok (.iadd, 1)) ?_
  refine g_putI (by decide +kernel : decode prog_2_method_3_code 66 = .ok (.putfield 44, 3)) fl_Ac_44 rfl rfl ?_
  refine g_sto (bS_r _ _ _ _ _) ?_
  refine g_iload (by decide +kernel : decode prog_2_method_3_code 69 = .ok (.iload 6, 2)) rfl ?_
  refine g_iastore (a := r) (by decide +kernel : decode prog_2_method_3_code 71 = .ok (.iastore, 1)) rfl rfl (by omega) (by decide) ?_
  refine g_sto (bS_1 _ _ _ _ _ _) ?_
  refine g_iload (by decide +kernel : decode prog_2_method_3_code 72 = .ok (.iload 4, 2)) rfl ?_
  refine g_iconst (v := nI 1) (by decide +kernel : decode prog_2_method_3_code 74 = .ok (.iconst 1, 1)) (by decide) ?_
  refine g_iaddN (by decide +kernel : decode prog_2_method_3_code 75 = .ok (.iadd, 1)) ?_
  refine g_istore (L' := [some (.ref 0), some (.int (nI 0)), some (.int (nI 3)), some (.int x), some (.int (nI d)), some (.int (nI 3)), some (.int (nI 13)), some (.int (nI (d + 1)))]) (by decide +kernel : decode prog_2_method_3_code 76 = .ok (.istore 7, 2)) (Nat.le_of_ble_eq_true rfl) rfl ?_
  refine g_iload (by decide +kernel : decode prog_2_method_3_code 78 = .ok (.iload 6, 2)) rfl ?_
  refine g_tableIn (x := nI 13) (off := 268) (tgt := 348) (by decide +kernel : decode prog_2_method_3_code 80 = .ok (.tableswitch 442 10 61 #[224, 233, 253, 268, 442, 442, 442, 442, 442, 442, 284, 442, 442, 442, 442, 442, 442, 442, 442, 442, 296, 308, 442, 442, 442, 442, 442, 442, 442, 442, 334, 346, 442, 442, 442, 442, 442, 442, 442, 442, 372, 389, 442, 442, 442, 442, 442, 442, 442, 442, 404, 416], 224)) (by decide) (by decide) rfl (by decide) ?_
  refine g_aload_n (by decide +kernel : decode prog_2_method_3_code 348 = .ok (.aload_n 0, 1)) rfl ?_
  refine g_aload_n (by decide +kernel : decode prog_2_method_3_code 349 = .ok (.aload_n 0, 1)) rfl ?_
  refine g_getI (by decide +kernel : decode prog_2_method_3_code 350 = .ok (.getfield 24, 3)) fl_Ac_24.get rfl rfl ?_
  refine g_top (w := nI 0) (hk) ?_
  refine g_iconst (v := nI 1) (by decide +kernel : decode prog_2_method_3_code 353 = .ok (.iconst 1, 1)) (by decide) ?_
  refine g_iload_n (by decide +kernel : decode prog_2_method_3_code 354 = .ok (.iload_n 3, 1)) rfl ?_
  refine g_iload (by decide +kernel : decode prog_2_method_3_code 355 = .ok (.iload 7, 2)) rfl ?_
  refine g_callVI [.int (nI 0), .int (nI 1), .int x, .int (nI (d + 1))] (by decide +kernel : decode prog_2_method_3_code 357 = .ok (.invokevirtual 37, 3)) lk_Ac_37 (r_0_0_1 σ (upd B r (nI 13)) (r + 1) (x) hk hn ha (d := (d + 1)) (by omega) (by omega)) rfl rfl rfl rfl (Nat.le_of_ble_eq_true rfl) (Nat.le_of_ble_eq_true rfl) (fun r357 s357 h357 => ?_)
  obtain ⟨rfl, rfl⟩ := h357
  refine g_bipush (v := nI 12) (by decide +kernel : decode prog_2_method_3_code 360 = .ok (.bipush 12, 2)) (by decide) ?_
  refine g_ixor (by decide +kernel : decode prog_2_method_3_code 362 = .ok (.ixor, 1)) ?_
  exact g_iret hR (by decide +kernel : decode prog_2_method_3_code 363 = .ok (.ireturn, 1)) rfl ⟨_, rfl, ⟨rfl, rfl⟩⟩
set_option maxRecDepth 20000 in
theorem r_1_1_0 (σ : Store) (B : Row) (r : Nat) (x : Int32) {n a : Nat} (hk : σ 0 2 = nI 1) (hn : σ 0 3 = nI n) (ha : σ 0 4 = nI a) {d : Nat} (hd : d + 1 ≤ 12) (hr : r + 1 ≤ 30) : Ct ΛA mt_Ac_run 1 [.ref 0, .int (nI 1), .int (nI 0), .int x, .int (nI d)] (bS σ B r 0) (PF (x - nI (n * 2)) (bS σ (wl B r [nI 10]) (r + 1) 0)) := by
  refine Ct.of (by decide) (Nat.le_of_ble_eq_true rfl) (fun X hR => ?_)
  show G (ΛA, mt_Ac_run, 1) X (bS σ B r 0) [some (.ref 0), some (.int (nI 1)), some (.int (nI 0)), some (.int x), some (.int (nI d)), none, none, none] [] 0
  refine g_iload_n (by decide +kernel : decode prog_2_method_3_code 0 = .ok (.iload_n 1, 1)) rfl ?_
  refine g_iconst (v := nI 4) (by decide +kernel : decode prog_2_method_3_code 1 = .ok (.iconst 4, 1)) (by decide) ?_
  refine g_imulN (by decide +kernel : decode prog_2_method_3_code 2 = .ok (.imul, 1)) ?_
  refine g_iload_n (by decide +kernel : decode prog_2_method_3_code 3 = .ok (.iload_n 2, 1)) rfl ?_
  refine g_iadd (by decide +kernel : decode prog_2_method_3_code 4 = .ok (.iadd, 1)) ?_
  refine g_top (w := nI 4) (by decide) ?_
  refine g_istore (L' := [some (.ref 0), some (.int (nI 1)), some (.int (nI 0)), some (.int x), some (.int (nI d)), some (.int (nI 4)), none, none]) (by decide +kernel : decode prog_2_method_3_code 5 = .ok (.istore 5, 2)) (Nat.le_of_ble_eq_true rfl) rfl ?_
  refine g_iload (by decide +kernel : decode prog_2_method_3_code 7 = .ok (.iload 4, 2)) rfl ?_
  refine g_bipush (v := nI 12) (by decide +kernel : decode prog_2_method_3_code 9 = .ok (.bipush 12, 2)) (by decide) ?_
  refine g_icmp_gtN (tgt := 35) (by decide +kernel : decode prog_2_method_3_code 11 = .ok (.if_icmp .gt 24, 3)) (by decide) (by omega) (by decide) (fun h => absurd h (by omega)) (fun _ => ?_)
  refine g_aload_n (by decide +kernel : decode prog_2_method_3_code 14 = .ok (.aload_n 0, 1)) rfl ?_
  refine g_getI (by decide +kernel : decode prog_2_method_3_code 15 = .ok (.getfield 15, 3)) fl_Ac_15.get rfl rfl ?_
  refine g_top (w := nI 0) (rfl) ?_
  refine g_if_neN (tgt := 35) (by decide +kernel : decode prog_2_method_3_code 18 = .ok (.ifCond .ne 17, 3)) (by decide) (by decide) (fun h => False.elim (by revert h; decide)) (fun _ => ?_)
  refine g_iload (by decide +kernel : decode prog_2_method_3_code 21 = .ok (.iload 5, 2)) rfl ?_
  refine g_if_ltN (by decide +kernel : decode prog_2_method_3_code 23 = .ok (.ifCond .lt 12, 3)) (by decide) (by decide) ?_
  refine g_iload (by decide +kernel : decode prog_2_method_3_code 26 = .ok (.iload 5, 2)) rfl ?_
  refine g_gets (j := 3) (by decide +kernel : decode prog_2_method_3_code 28 = .ok (.getstatic 41, 3)) (by decide) sl_Ac_41 ?_
  refine g_rolen (j := 3) (by decide +kernel : decode prog_2_method_3_code 31 = .ok (.arraylength, 1)) (by decide) ?_
  refine g_icmp_ltN (tgt := 37) (by decide +kernel : decode prog_2_method_3_code 32 = .ok (.if_icmp .lt 5, 3)) (by decide) (by decide) (by decide) (fun _ => ?_) (fun h => absurd (by decide) h)
  refine g_gets (j := 3) (by decide +kernel : decode prog_2_method_3_code 37 = .ok (.getstatic 41, 3)) (by decide) sl_Ac_41 ?_
  refine g_iload (by decide +kernel : decode prog_2_method_3_code 40 = .ok (.iload 5, 2)) rfl ?_
  refine g_roload (j := 3) (a := 4) (by decide +kernel : decode prog_2_method_3_code 42 = .ok (.iaload, 1)) (by decide) rfl (by decide) ?_
  refine g_top (w := nI 10) (rfl) ?_
  refine g_istore (L' := [some (.ref 0), some (.int (nI 1)), some (.int (nI 0)), some (.int x), some (.int (nI d)), some (.int (nI 4)), some (.int (nI 10)), none]) (by decide +kernel : decode prog_2_method_3_code 43 = .ok (.istore 6, 2)) (Nat.le_of_ble_eq_true rfl) rfl ?_
  refine g_aload_n (by decide +kernel : decode prog_2_method_3_code 45 = .ok (.aload_n 0, 1)) rfl ?_
  refine g_getI (by decide +kernel : decode prog_2_method_3_code 46 = .ok (.getfield 44, 3)) fl_Ac_44.get rfl rfl ?_
  refine g_top (w := nI r) (rfl) ?_
  refine g_bipush (v := nI 30) (by decide +kernel : decode prog_2_method_3_code 49 = .ok (.bipush 30, 2)) (by decide) ?_
  refine g_icmp_geN (tgt := 72) (by decide +kernel : decode prog_2_method_3_code 51 = .ok (.if_icmp .ge 21, 3)) (by decide) (by omega) (by decide) (fun h => absurd h (by omega)) (fun _ => ?_)
  refine g_aload_n (by decide +kernel : decode prog_2_method_3_code 54 = .ok (.aload_n 0, 1)) rfl ?_
  refine g_getR (by decide +kernel : decode prog_2_method_3_code 55 = .ok (.getfield 9, 3)) fl_Ac_9 rfl rfl ?_
  refine g_aload_n (by decide +kernel : decode prog_2_method_3_code 58 = .ok (.aload_n 0, 1)) rfl ?_
  refine g_dup (by decide +kernel : decode prog_2_method_3_code 59 = .ok (.dup, 1)) rfl ?_
  refine g_getI (by decide +kernel : decode prog_2_method_3_code 60 = .ok (.getfield 44, 3)) fl_Ac_44.get rfl rfl ?_
  refine g_top (w := nI r) (rfl) ?_
  refine g_dup_x1 (by decide +kernel : decode prog_2_method_3_code 63 = .ok (.dup_x1, 1)) rfl rfl ?_
  refine g_iconst (v := nI 1) (by decide +kernel : decode prog_2_method_3_code 64 = .ok (.iconst 1, 1)) (by decide) ?_
  refine g_iaddN (by decide +kernel : decode prog_2_method_3_code 65 = .ok (.iadd, 1)) ?_
  refine g_putI (by decide +kernel : decode prog_2_method_3_code 66 = .ok (.putfield 44, 3)) fl_Ac_44 rfl rfl ?_
  refine g_sto (bS_r _ _ _ _ _) ?_
  refine g_iload (by decide +kernel : decode prog_2_method_3_code 69 = .ok (.iload 6, 2)) rfl ?_
  refine g_iastore (a := r) (by decide +kernel : decode prog_2_method_3_code 71 = .ok (.iastore, 1)) rfl rfl (by omega) (by decide) ?_
  refine g_sto (bS_1 _ _ _ _ _ _) ?_
  refine g_iload (by decide +kernel : decode prog_2_method_3_code 72 = .ok (.iload 4, 2)) rfl ?_
  refine g_iconst (v := nI 1) (by decide +kernel : decode prog_2_method_3_code 74 = .ok (.iconst 1, 1)) (by decide) ?_
  refine g_iaddN (by decide +kernel : decode prog_2_method_3_code 75 = .ok (.iadd, 1)) ?_
  refine g_istore (L' := [some (.ref 0), some (.int (nI 1)), some (.int (nI 0)), some (.int x), some (.int (nI d)), some (.int (nI 4)), some (.int (nI 10)), some (.int (nI (d + 1)))]) (by decide +kernel : decode prog_2_method_3_code 76 = .ok (.istore 7, 2)) (Nat.le_of_ble_eq_true rfl) rfl ?_
  refine g_iload (by decide +kernel : decode prog_2_method_3_code 78 = .ok (.iload 6, 2)) rfl ?_
  refine g_tableIn (x := nI 10) (off := 224) (tgt := 304) (by decide +kernel : decode prog_2_method_3_code 80 = .ok (.tableswitch 442 10 61 #[224, 233, 253, 268, 442, 442, 442, 442, 442, 442, 284, 442, 442, 442, 442, 442, 442, 442, 442, 442, 296, 308, 442, 442, 442, 442, 442, 442, 442, 442, 334, 346, 442, 442, 442, 442, 442, 442, 442, 442, 372, 389, 442, 442, 442, 442, 442, 442, 442, 442, 404, 416], 224)) (by decide) (by decide) rfl (by decide) ?_
  refine g_iload_n (by decide +kernel : decode prog_2_method_3_code 304 = .ok (.iload_n 3, 1)) rfl ?_
  refine g_aload_n (by decide +kernel : decode prog_2_method_3_code 305 = .ok (.aload_n 0, 1)) rfl ?_
  refine g_getI (by decide +kernel : decode prog_2_method_3_code 306 = .ok (.getfield 28, 3)) fl_Ac_28.get rfl rfl ?_
  refine g_top (w := nI n) (hn) ?_
  refine g_iconst (v := nI 2) (by decide +kernel : decode prog_2_method_3_code 309 = .ok (.iconst 2, 1)) (by decide) ?_
  refine g_imulN (by decide +kernel : decode prog_2_method_3_code 310 = .ok (.imul, 1)) ?_
  refine g_isub (by decide +kernel : decode prog_2_method_3_code 311 = .ok (.isub, 1)) ?_
  exact g_iret hR (by decide +kernel : decode prog_2_method_3_code 312 = .ok (.ireturn, 1)) rfl ⟨_, rfl, ⟨rfl, rfl⟩⟩
set_option maxRecDepth 20000 in
theorem r_1_0_1 (σ : Store) (B : Row) (r : Nat) (x : Int32) {n a : Nat} (hk : σ 0 2 = nI 1) (hn : σ 0 3 = nI n) (ha : σ 0 4 = nI a) {d : Nat} (hd : d + 2 ≤ 12) (hr : r + 2 ≤ 30) : Ct ΛA mt_Ac_run 2 [.ref 0, .int (nI 0), .int (nI 1), .int x, .int (nI d)] (bS σ B r 0) (PF ((x - nI (n * 2)) * nI 2 - nI a) (bS σ (wl B r [nI 11, nI 10]) (r + 2) 0)) := by
  refine Ct.of (by decide) (Nat.le_of_ble_eq_true rfl) (fun X hR => ?_)
  show G (ΛA, mt_Ac_run, 2) X (bS σ B r 0) [some (.ref 0), some (.int (nI 0)), some (.int (nI 1)), some (.int x), some (.int (nI d)), none, none, none] [] 0
  refine g_iload_n (by decide +kernel : decode prog_2_method_3_code 0 = .ok (.iload_n 1, 1)) rfl ?_
  refine g_iconst (v := nI 4) (by decide +kernel : decode prog_2_method_3_code 1 = .ok (.iconst 4, 1)) (by decide) ?_
  refine g_imulN (by decide +kernel : decode prog_2_method_3_code 2 = .ok (.imul, 1)) ?_
  refine g_iload_n (by decide +kernel : decode prog_2_method_3_code 3 = .ok (.iload_n 2, 1)) rfl ?_
  refine g_iadd (by decide +kernel : decode prog_2_method_3_code 4 = .ok (.iadd, 1)) ?_
  refine g_top (w := nI 1) (by decide) ?_
  refine g_istore (L' := [some (.ref 0), some (.int (nI 0)), some (.int (nI 1)), some (.int x), some (.int (nI d)), some (.int (nI 1)), none, none]) (by decide +kernel : decode prog_2_method_3_code 5 = .ok (.istore 5, 2)) (Nat.le_of_ble_eq_true rfl) rfl ?_
  refine g_iload (by decide +kernel : decode prog_2_method_3_code 7 = .ok (.iload 4, 2)) rfl ?_
  refine g_bipush (v := nI 12) (by decide +kernel : decode prog_2_method_3_code 9 = .ok (.bipush 12, 2)) (by decide) ?_
  refine g_icmp_gtN (tgt := 35) (by decide +kernel : decode prog_2_method_3_code 11 = .ok (.if_icmp .gt 24, 3)) (by decide) (by omega) (by decide) (fun h => absurd h (by omega)) (fun _ => ?_)
  refine g_aload_n (by decide +kernel : decode prog_2_method_3_code 14 = .ok (.aload_n 0, 1)) rfl ?_
  refine g_getI (by decide +kernel : decode prog_2_method_3_code 15 = .ok (.getfield 15, 3)) fl_Ac_15.get rfl rfl ?_
  refine g_top (w := nI 0) (rfl) ?_
  refine g_if_neN (tgt := 35) (by decide +kernel : decode prog_2_method_3_code 18 = .ok (.ifCond .ne 17, 3)) (by decide) (by decide) (fun h => False.elim (by revert h; decide)) (fun _ => ?_)
  refine g_iload (by decide +kernel : decode prog_2_method_3_code 21 = .ok (.iload 5, 2)) rfl ?_
  refine g_if_ltN (by decide +kernel : decode prog_2_method_3_code 23 = .ok (.ifCond .lt 12, 3)) (by decide) (by decide) ?_
  refine g_iload (by decide +kernel : decode prog_2_method_3_code 26 = .ok (.iload 5, 2)) rfl ?_
  refine g_gets (j := 3) (by decide +kernel : decode prog_2_method_3_code 28 = .ok (.getstatic 41, 3)) (by decide) sl_Ac_41 ?_
  refine g_rolen (j := 3) (by decide +kernel : decode prog_2_method_3_code 31 = .ok (.arraylength, 1)) (by decide) ?_
  refine g_icmp_ltN (tgt := 37) (by decide +kernel : decode prog_2_method_3_code 32 = .ok (.if_icmp .lt 5, 3)) (by decide) (by decide) (by decide) (fun _ => ?_) (fun h => absurd (by decide) h)
  refine g_gets (j := 3) (by decide +kernel : decode prog_2_method_3_code 37 = .ok (.getstatic 41, 3)) (by decide) sl_Ac_41 ?_
  refine g_iload (by decide +kernel : decode prog_2_method_3_code 40 = .ok (.iload 5, 2)) rfl ?_
  refine g_roload (j := 3) (a := 1) (by decide +kernel : decode prog_2_method_3_code 42 = .ok (.iaload, 1)) (by decide) rfl (by decide) ?_
  refine g_top (w := nI 11) (rfl) ?_
  refine g_istore (L' := [some (.ref 0), some (.int (nI 0)), some (.int (nI 1)), some (.int x), some (.int (nI d)), some (.int (nI 1)), some (.int (nI 11)), none]) (by decide +kernel : decode prog_2_method_3_code 43 = .ok (.istore 6, 2)) (Nat.le_of_ble_eq_true rfl) rfl ?_
  refine g_aload_n (by decide +kernel : decode prog_2_method_3_code 45 = .ok (.aload_n 0, 1)) rfl ?_
  refine g_getI (by decide +kernel : decode prog_2_method_3_code 46 = .ok (.getfield 44, 3)) fl_Ac_44.get rfl rfl ?_
  refine g_top (w := nI r) (rfl) ?_
  refine g_bipush (v := nI 30) (by decide +kernel : decode prog_2_method_3_code 49 = .ok (.bipush 30, 2)) (by decide) ?_
  refine g_icmp_geN (tgt := 72) (by decide +kernel : decode prog_2_method_3_code 51 = .ok (.if_icmp .ge 21, 3)) (by decide) (by omega) (by decide) (fun h => absurd h (by omega)) (fun _ => ?_)
  refine g_aload_n (by decide +kernel : decode prog_2_method_3_code 54 = .ok (.aload_n 0, 1)) rfl ?_
  refine g_getR (by decide +kernel : decode prog_2_method_3_code 55 = .ok (.getfield 9, 3)) fl_Ac_9 rfl rfl ?_
  refine g_aload_n (by decide +kernel : decode prog_2_method_3_code 58 = .ok (.aload_n 0, 1)) rfl ?_
  refine g_dup (by decide +kernel : decode prog_2_method_3_code 59 = .ok (.dup, 1)) rfl ?_
  refine g_getI (by decide +kernel : decode prog_2_method_3_code 60 = .ok (.getfield 44, 3)) fl_Ac_44.get rfl rfl ?_
  refine g_top (w := nI r) (rfl) ?_
  refine g_dup_x1 (by decide +kernel : decode prog_2_method_3_code 63 = .ok (.dup_x1, 1)) rfl rfl ?_
  refine g_iconst (v := nI 1) (by decide +kernel : decode prog_2_method_3_code 64 = .ok (.iconst 1, 1)) (by decide) ?_
  refine g_iaddN (by decide +kernel : decode prog_2_method_3_code 65 = .ok (.iadd, 1)) ?_
  refine g_putI (by decide +kernel : decode prog_2_method_3_code 66 = .ok (.putfield 44, 3)) fl_Ac_44 rfl rfl ?_
  refine g_sto (bS_r _ _ _ _ _) ?_
  refine g_iload (by decide +kernel : decode prog_2_method_3_code 69 = .ok (.iload 6, 2)) rfl ?_
  refine g_iastore (a := r) (by decide +kernel : decode prog_2_method_3_code 71 = .ok (.iastore, 1)) rfl rfl (by omega) (by decide) ?_
  refine g_sto (bS_1 _ _ _ _ _ _) ?_
  refine g_iload (by decide +kernel : decode prog_2_method_3_code 72 = .ok (.iload 4, 2)) rfl ?_
  refine g_iconst (v := nI 1) (by decide +kernel : decode prog_2_method_3_code 74 = .ok (.iconst 1, 1)) (by decide) ?_
  refine g_iaddN (by decide +kernel : decode prog_2_method_3_code 75 = .ok (.iadd, 1)) ?_
  refine g_istore (L' := [some (.ref 0), some (.int (nI 0)), some (.int (nI 1)), some (.int x), some (.int (nI d)), some (.int (nI 1)), some (.int (nI 11)), some (.int (nI (d + 1)))]) (by decide +kernel : decode prog_2_method_3_code 76 = .ok (.istore 7, 2)) (Nat.le_of_ble_eq_true rfl) rfl ?_
  refine g_iload (by decide +kernel : decode prog_2_method_3_code 78 = .ok (.iload 6, 2)) rfl ?_
  refine g_tableIn (x := nI 11) (off := 233) (tgt := 313) (by decide +kernel : decode prog_2_method_3_code 80 = .ok (.tableswitch 442 10 61 #[224, 233, 253, 268, 442, 442, 442, 442, 442, 442, 284, 442, 442, 442, 442, 442, 442, 442, 442, 442, 296, 308, 442, 442, 442, 442, 442, 442, 442, 442, 334, 346, 442, 442, 442, 442, 442, 442, 442, 442, 372, 389, 442, 442, 442, 442, 442, 442, 442, 442, 404, 416], 224)) (by decide) (by decide) rfl (by decide) ?_
  refine g_aload_n (by decide +kernel : decode prog_2_method_3_code 313 = .ok (.aload_n 0, 1)) rfl ?_
  refine g_aload_n (by decide +kernel : decode prog_2_method_3_code 314 = .ok (.aload_n 0, 1)) rfl ?_
  refine g_getI (by decide +kernel : decode prog_2_method_3_code 315 = .ok (.getfield 24, 3)) fl_Ac_24.get rfl rfl ?_
  refine g_top (w := nI 1) (hk) ?_
  refine g_iconst (v := nI 0) (by decide +kernel : decode prog_2_method_3_code 318 = .ok (.iconst 0, 1)) (by decide) ?_
  refine g_iload_n (by decide +kernel : decode prog_2_method_3_code 319 = .ok (.iload_n 3, 1)) rfl ?_
  refine g_iload (by decide +kernel : decode prog_2_method_3_code 320 = .ok (.iload 7, 2)) rfl ?_
  refine g_callVI [.int (nI 1), .int (nI 0), .int x, .int (nI (d + 1))] (by decide +kernel : decode prog_2_method_3_code 322 = .ok (.invokevirtual 37, 3)) lk_Ac_37 (r_1_1_0 σ (upd B r (nI 11)) (r + 1) (x) hk hn ha (d := (d + 1)) (by omega) (by omega)) rfl rfl rfl rfl (Nat.le_of_ble_eq_true rfl) (Nat.le_of_ble_eq_true rfl) (fun r322 s322 h322 => ?_)
  obtain ⟨rfl, rfl⟩ := h322
  refine g_iconst (v := nI 2) (by decide +kernel : decode prog_2_method_3_code 325 = .ok (.iconst 2, 1)) (by decide) ?_
  refine g_imul (by decide +kernel : decode prog_2_method_3_code 326 = .ok (.imul, 1)) ?_
  refine g_aload_n (by decide +kernel : decode prog_2_method_3_code 327 = .ok (.aload_n 0, 1)) rfl ?_
  refine g_getI (by decide +kernel : decode prog_2_method_3_code 328 = .ok (.getfield 34, 3)) fl_Ac_34.get rfl rfl ?_
  refine g_top (w := nI a) (ha) ?_
  refine g_isub (by decide +kernel : decode prog_2_method_3_code 331 = .ok (.isub, 1)) ?_
  exact g_iret hR (by decide +kernel : decode prog_2_method_3_code 332 = .ok (.ireturn, 1)) rfl ⟨_, rfl, ⟨rfl, rfl⟩⟩
set_option maxRecDepth 20000 in
theorem r_1_1_1 (σ : Store) (B : Row) (r : Nat) (x : Int32) {n a : Nat} (hk : σ 0 2 = nI 1) (hn : σ 0 3 = nI n) (ha : σ 0 4 = nI a) {d : Nat} (hd : d + 3 ≤ 12) (hr : r + 3 ≤ 30) : Ct ΛA mt_Ac_run 3 [.ref 0, .int (nI 1), .int (nI 1), .int x, .int (nI d)] (bS σ B r 0) (PF (((x - nI (n * 2)) * nI 2 - nI a) + nI 5) (bS σ (wl B r [nI 20, nI 11, nI 10]) (r + 3) 0)) := by
  refine Ct.of (by decide) (Nat.le_of_ble_eq_true rfl) (fun X hR => ?_)
  show G (ΛA, mt_Ac_run, 3) X (bS σ B r 0) [some (.ref 0), some (.int (nI 1)), some (.int (nI 1)), some (.int x), some (.int (nI d)), none, none, none] [] 0
  refine g_iload_n (by decide +kernel : decode prog_2_method_3_code 0 = .ok (.iload_n 1, 1)) rfl ?_
  refine g_iconst (v := nI 4) (by decide +kernel : decode prog_2_method_3_code 1 = .ok (.iconst 4, 1)) (by decide) ?_
  refine g_imulN (by decide +kernel : decode prog_2_method_3_code 2 = .ok (.imul, 1)) ?_
  refine g_iload_n (by decide +kernel : decode prog_2_method_3_code 3 = .ok (.iload_n 2, 1)) rfl ?_
  refine g_iadd (by decide +kernel : decode prog_2_method_3_code 4 = .ok (.iadd, 1)) ?_
  refine g_top (w := nI 5) (by decide) ?_
  refine g_istore (L' := [some (.ref 0), some (.int (nI 1)), some (.int (nI 1)), some (.int x), some (.int (nI d)), some (.int (nI 5)), none, none]) (by decide +kernel : decode prog_2_method_3_code 5 = .ok (.istore 5, 2)) (Nat.le_of_ble_eq_true rfl) rfl ?_
  refine g_iload (by decide +kernel : decode prog_2_method_3_code 7 = .ok (.iload 4, 2)) rfl ?_
  refine g_bipush (v := nI 12) (by decide +kernel : decode prog_2_method_3_code 9 = .ok (.bipush 12, 2)) (by decide) ?_
  refine g_icmp_gtN (tgt := 35) (by decide +kernel : decode prog_2_method_3_code 11 = .ok (.if_icmp .gt 24, 3)) (by decide) (by omega) (by decide) (fun h => absurd h (by omega)) (fun _ => ?_)
  refine g_aload_n (by decide +kernel : decode prog_2_method_3_code 14 = .ok (.aload_n 0, 1)) rfl ?_
  refine g_getI (by decide +kernel : decode prog_2_method_3_code 15 = .ok (.getfield 15, 3)) fl_Ac_15.get rfl rfl ?_
  refine g_top (w := nI 0) (rfl) ?_
  refine g_if_neN (tgt := 35) (by decide +kernel : decode prog_2_method_3_code 18 = .ok (.ifCond .ne 17, 3)) (by decide) (by decide) (fun h => False.elim (by revert h; decide)) (fun _ => ?_)
  refine g_iload (by decide +kernel : decode prog_2_method_3_code 21 = .ok (.iload 5, 2)) rfl ?_
  refine g_if_ltN (by decide +kernel : decode prog_2_method_3_code 23 = .ok (.ifCond .lt 12, 3)) (by decide) (by decide) ?_
  refine g_iload (by decide +kernel : decode prog_2_method_3_code 26 = .ok (.iload 5, 2)) rfl ?_
  refine g_gets (j := 3) (by decide +kernel : decode prog_2_method_3_code 28 = .ok (.getstatic 41, 3)) (by decide) sl_Ac_41 ?_
  refine g_rolen (j := 3) (by decide +kernel : decode prog_2_method_3_code 31 = .ok (.arraylength, 1)) (by decide) ?_
  refine g_icmp_ltN (tgt := 37) (by decide +kernel : decode prog_2_method_3_code 32 = .ok (.if_icmp .lt 5, 3)) (by decide) (by decide) (by decide) (fun _ => ?_) (fun h => absurd (by decide) h)
  refine g_gets (j := 3) (by decide +kernel : decode prog_2_method_3_code 37 = .ok (.getstatic 41, 3)) (by decide) sl_Ac_41 ?_
  refine g_iload (by decide +kernel : decode prog_2_method_3_code 40 = .ok (.iload 5, 2)) rfl ?_
  refine g_roload (j := 3) (a := 5) (by decide +kernel : decode prog_2_method_3_code 42 = .ok (.iaload, 1)) (by decide) rfl (by decide) ?_
  refine g_top (w := nI 20) (rfl) ?_
  refine g_istore (L' := [some (.ref 0), some (.int (nI 1)), some (.int (nI 1)), some (.int x), some (.int (nI d)), some (.int (nI 5)), some (.int (nI 20)), none]) (by decide +kernel : decode prog_2_method_3_code 43 = .ok (.istore 6, 2)) (Nat.le_of_ble_eq_true rfl) rfl ?_
  refine g_aload_n (by decide +kernel : decode prog_2_method_3_code 45 = .ok (.aload_n 0, 1)) rfl ?_
  refine g_getI (by decide +kernel : decode prog_2_method_3_code 46 = .ok (.getfield 44, 3)) fl_Ac_44.get rfl rfl ?_
  refine g_top (w := nI r) (rfl) ?_
  refine g_bipush (v := nI 30) (by decide +kernel : decode prog_2_method_3_code 49 = .ok (.bipush 30, 2)) (by decide) ?_
  refine g_icmp_geN (tgt := 72) (by decide +kernel : decode prog_2_method_3_code 51 = .ok (.if_icmp .ge 21, 3)) (by decide) (by omega) (by decide) (fun h => absurd h (by omega)) (fun _ => ?_)
  refine g_aload_n (by decide +kernel : decode prog_2_method_3_code 54 = .ok (.aload_n 0, 1)) rfl ?_
  refine g_getR (by decide +kernel : decode prog_2_method_3_code 55 = .ok (.getfield 9, 3)) fl_Ac_9 rfl rfl ?_
  refine g_aload_n (by decide +kernel : decode prog_2_method_3_code 58 = .ok (.aload_n 0, 1)) rfl ?_
  refine g_dup (by decide +kernel : decode prog_2_method_3_code 59 = .ok (.dup, 1)) rfl ?_
  refine g_getI (by decide +kernel : decode prog_2_method_3_code 60 = .ok (.getfield 44, 3)) fl_Ac_44.get rfl rfl ?_
  refine g_top (w := nI r) (rfl) ?_
  refine g_dup_x1 (by decide +kernel : decode prog_2_method_3_code 63 = .ok (.dup_x1, 1)) rfl rfl ?_
  refine g_iconst (v := nI 1) (by decide +kernel : decode prog_2_method_3_code 64 = .ok (.iconst 1, 1)) (by decide) ?_
  refine g_iaddN (by decide +kernel : decode prog_2_method_3_code 65 = .ok (.iadd, 1)) ?_
  refine g_putI (by decide +kernel : decode prog_2_method_3_code 66 = .ok (.putfield 44, 3)) fl_Ac_44 rfl rfl ?_
  refine g_sto (bS_r _ _ _ _ _) ?_
  refine g_iload (by decide +kernel : decode prog_2_method_3_code 69 = .ok (.iload 6, 2)) rfl ?_
  refine g_iastore (a := r) (by decide +kernel : decode prog_2_method_3_code 71 = .ok (.iastore, 1)) rfl rfl (by omega) (by decide) ?_
  refine g_sto (bS_1 _ _ _ _ _ _) ?_
  refine g_iload (by decide +kernel : decode prog_2_method_3_code 72 = .ok (.iload 4, 2)) rfl ?_
  refine g_iconst (v := nI 1) (by decide +kernel : decode prog_2_method_3_code 74 = .ok (.iconst 1, 1)) (by decide) ?_
  refine g_iaddN (by decide +kernel : decode prog_2_method_3_code 75 = .ok (.iadd, 1)) ?_
  refine g_istore (L' := [some (.ref 0), some (.int (nI 1)), some (.int (nI 1)), some (.int x), some (.int (nI d)), some (.int (nI 5)), some (.int (nI 20)), some (.int (nI (d + 1)))]) (by decide +kernel : decode prog_2_method_3_code 76 = .ok (.istore 7, 2)) (Nat.le_of_ble_eq_true rfl) rfl ?_
  refine g_iload (by decide +kernel : decode prog_2_method_3_code 78 = .ok (.iload 6, 2)) rfl ?_
  refine g_tableIn (x := nI 20) (off := 284) (tgt := 364) (by decide +kernel : decode prog_2_method_3_code 80 = .ok (.tableswitch 442 10 61 #[224, 233, 253, 268, 442, 442, 442, 442, 442, 442, 284, 442, 442, 442, 442, 442, 442, 442, 442, 442, 296, 308, 442, 442, 442, 442, 442, 442, 442, 442, 334, 346, 442, 442, 442, 442, 442, 442, 442, 442, 372, 389, 442, 442, 442, 442, 442, 442, 442, 442, 404, 416], 224)) (by decide) (by decide) rfl (by decide) ?_
  refine g_aload_n (by decide +kernel : decode prog_2_method_3_code 364 = .ok (.aload_n 0, 1)) rfl ?_
  refine g_iconst (v := nI 0) (by decide +kernel : decode prog_2_method_3_code 365 = .ok (.iconst 0, 1)) (by decide) ?_
  refine g_iconst (v := nI 1) (by decide +kernel : decode prog_2_method_3_code 366 = .ok (.iconst 1, 1)) (by decide) ?_
  refine g_iload_n (by decide +kernel : decode prog_2_method_3_code 367 = .ok (.iload_n 3, 1)) rfl ?_
  refine g_iload (by decide +kernel : decode prog_2_method_3_code 368 = .ok (.iload 7, 2)) rfl ?_
  refine g_callVI [.int (nI 0), .int (nI 1), .int x, .int (nI (d + 1))] (by decide +kernel : decode prog_2_method_3_code 370 = .ok (.invokevirtual 37, 3)) lk_Ac_37 (r_1_0_1 σ (upd B r (nI 20)) (r + 1) (x) hk hn ha (d := (d + 1)) (by omega) (by omega)) rfl rfl rfl rfl (Nat.le_of_ble_eq_true rfl) (Nat.le_of_ble_eq_true rfl) (fun r370 s370 h370 => ?_)
  obtain ⟨rfl, rfl⟩ := h370
  refine g_iconst (v := nI 5) (by decide +kernel : decode prog_2_method_3_code 373 = .ok (.iconst 5, 1)) (by decide) ?_
  refine g_iadd (by decide +kernel : decode prog_2_method_3_code 374 = .ok (.iadd, 1)) ?_
  exact g_iret hR (by decide +kernel : decode prog_2_method_3_code 375 = .ok (.ireturn, 1)) rfl ⟨_, rfl, ⟨rfl, rfl⟩⟩
set_option maxRecDepth 20000 in
theorem r_1_1_2e (σ : Store) (B : Row) (r : Nat) (x : Int32) {n a : Nat} (hk : σ 0 2 = nI 1) (hn : σ 0 3 = nI n) (ha : σ 0 4 = nI a) {d : Nat} (hd : d + 1 ≤ 12) (hr : r + 1 ≤ 30) (hn7 : n ≤ 7) (ha9 : a ≤ 9) (hna : n = a) : Ct ΛA mt_Ac_run 1 [.ref 0, .int (nI 1), .int (nI 2), .int x, .int (nI d)] (bS σ B r 0) (PF (pP n a x) (bS σ (wl B r [nI 12]) (r + 1) 1)) := by
  refine Ct.of (by decide) (Nat.le_of_ble_eq_true rfl) (fun X hR => ?_)
  show G (ΛA, mt_Ac_run, 1) X (bS σ B r 0) [some (.ref 0), some (.int (nI 1)), some (.int (nI 2)), some (.int x), some (.int (nI d)), none, none, none] [] 0
  refine g_iload_n (by decide +kernel : decode prog_2_method_3_code 0 = .ok (.iload_n 1, 1)) rfl ?_
  refine g_iconst (v := nI 4) (by decide +kernel : decode prog_2_method_3_code 1 = .ok (.iconst 4, 1)) (by decide) ?_
  refine g_imulN (by decide +kernel : decode prog_2_method_3_code 2 = .ok (.imul, 1)) ?_
  refine g_iload_n (by decide +kernel : decode prog_2_method_3_code 3 = .ok (.iload_n 2, 1)) rfl ?_
  refine g_iadd (by decide +kernel : decode prog_2_method_3_code 4 = .ok (.iadd, 1)) ?_
  refine g_top (w := nI 6) (by decide) ?_
  refine g_istore (L' := [some (.ref 0), some (.int (nI 1)), some (.int (nI 2)), some (.int x), some (.int (nI d)), some (.int (nI 6)), none, none]) (by decide +kernel : decode prog_2_method_3_code 5 = .ok (.istore 5, 2)) (Nat.le_of_ble_eq_true rfl) rfl ?_
  refine g_iload (by decide +kernel : decode prog_2_method_3_code 7 = .ok (.iload 4, 2)) rfl ?_
  refine g_bipush (v := nI 12) (by decide +kernel : decode prog_2_method_3_code 9 = .ok (.bipush 12, 2)) (by decide) ?_
  refine g_icmp_gtN (tgt := 35) (by decide +kernel : decode prog_2_method_3_code 11 = .ok (.if_icmp .gt 24, 3)) (by decide) (by omega) (by decide) (fun h => absurd h (by omega)) (fun _ => ?_)
  refine g_aload_n (by decide +kernel : decode prog_2_method_3_code 14 = .ok (.aload_n 0, 1)) rfl ?_
  refine g_getI (by decide +kernel : decode prog_2_method_3_code 15 = .ok (.getfield 15, 3)) fl_Ac_15.get rfl rfl ?_
  refine g_top (w := nI 0) (rfl) ?_
  refine g_if_neN (tgt := 35) (by decide +kernel : decode prog_2_method_3_code 18 = .ok (.ifCond .ne 17, 3)) (by decide) (by decide) (fun h => False.elim (by revert h; decide)) (fun _ => ?_)
  refine g_iload (by decide +kernel : decode prog_2_method_3_code 21 = .ok (.iload 5, 2)) rfl ?_
  refine g_if_ltN (by decide +kernel : decode prog_2_method_3_code 23 = .ok (.ifCond .lt 12, 3)) (by decide) (by decide) ?_
  refine g_iload (by decide +kernel : decode prog_2_method_3_code 26 = .ok (.iload 5, 2)) rfl ?_
  refine g_gets (j := 3) (by decide +kernel : decode prog_2_method_3_code 28 = .ok (.getstatic 41, 3)) (by decide) sl_Ac_41 ?_
  refine g_rolen (j := 3) (by decide +kernel : decode prog_2_method_3_code 31 = .ok (.arraylength, 1)) (by decide) ?_
  refine g_icmp_ltN (tgt := 37) (by decide +kernel : decode prog_2_method_3_code 32 = .ok (.if_icmp .lt 5, 3)) (by decide) (by decide) (by decide) (fun _ => ?_) (fun h => absurd (by decide) h)
  refine g_gets (j := 3) (by decide +kernel : decode prog_2_method_3_code 37 = .ok (.getstatic 41, 3)) (by decide) sl_Ac_41 ?_
  refine g_iload (by decide +kernel : decode prog_2_method_3_code 40 = .ok (.iload 5, 2)) rfl ?_
  refine g_roload (j := 3) (a := 6) (by decide +kernel : decode prog_2_method_3_code 42 = .ok (.iaload, 1)) (by decide) rfl (by decide) ?_
  refine g_top (w := nI 12) (rfl) ?_
  refine g_istore (L' := [some (.ref 0), some (.int (nI 1)), some (.int (nI 2)), some (.int x), some (.int (nI d)), some (.int (nI 6)), some (.int (nI 12)), none]) (by decide +kernel : decode prog_2_method_3_code 43 = .ok (.istore 6, 2)) (Nat.le_of_ble_eq_true rfl) rfl ?_
  refine g_aload_n (by decide +kernel : decode prog_2_method_3_code 45 = .ok (.aload_n 0, 1)) rfl ?_
  refine g_getI (by decide +kernel : decode prog_2_method_3_code 46 = .ok (.getfield 44, 3)) fl_Ac_44.get rfl rfl ?_
  refine g_top (w := nI r) (rfl) ?_
  refine g_bipush (v := nI 30) (by decide +kernel : decode prog_2_method_3_code 49 = .ok (.bipush 30, 2)) (by decide) ?_
  refine g_icmp_geN (tgt := 72) (by decide +kernel : decode prog_2_method_3_code 51 = .ok (.if_icmp .ge 21, 3)) (by decide) (by omega) (by decide) (fun h => absurd h (by omega)) (fun _ => ?_)
  refine g_aload_n (by decide +kernel : decode prog_2_method_3_code 54 = .ok (.aload_n 0, 1)) rfl ?_
  refine g_getR (by decide +kernel : decode prog_2_method_3_code 55 = .ok (.getfield 9, 3)) fl_Ac_9 rfl rfl ?_
  refine g_aload_n (by decide +kernel : decode prog_2_method_3_code 58 = .ok (.aload_n 0, 1)) rfl ?_
  refine g_dup (by decide +kernel : decode prog_2_method_3_code 59 = .ok (.dup, 1)) rfl ?_
  refine g_getI (by decide +kernel : decode prog_2_method_3_code 60 = .ok (.getfield 44, 3)) fl_Ac_44.get rfl rfl ?_
  refine g_top (w := nI r) (rfl) ?_
  refine g_dup_x1 (by decide +kernel : decode prog_2_method_3_code 63 = .ok (.dup_x1, 1)) rfl rfl ?_
  refine g_iconst (v := nI 1) (by decide +kernel : decode prog_2_method_3_code 64 = .ok (.iconst 1, 1)) (by decide) ?_
  refine g_iaddN (by decide +kernel : decode prog_2_method_3_code 65 = .ok (.iadd, 1)) ?_
  refine g_putI (by decide +kernel : decode prog_2_method_3_code 66 = .ok (.putfield 44, 3)) fl_Ac_44 rfl rfl ?_
  refine g_sto (bS_r _ _ _ _ _) ?_
  refine g_iload (by decide +kernel : decode prog_2_method_3_code 69 = .ok (.iload 6, 2)) rfl ?_
  refine g_iastore (a := r) (by decide +kernel : decode prog_2_method_3_code 71 = .ok (.iastore, 1)) rfl rfl (by omega) (by decide) ?_
  refine g_sto (bS_1 _ _ _ _ _ _) ?_
  refine g_iload (by decide +kernel : decode prog_2_method_3_code 72 = .ok (.iload 4, 2)) rfl ?_
  refine g_iconst (v := nI 1) (by decide +kernel : decode prog_2_method_3_code 74 = .ok (.iconst 1, 1)) (by decide) ?_
  refine g_iaddN (by decide +kernel : decode prog_2_method_3_code 75 = .ok (.iadd, 1)) ?_
  refine g_istore (L' := [some (.ref 0), some (.int (nI 1)), some (.int (nI 2)), some (.int x), some (.int (nI d)), some (.int (nI 6)), some (.int (nI 12)), some (.int (nI (d + 1)))]) (by decide +kernel : decode prog_2_method_3_code 76 = .ok (.istore 7, 2)) (Nat.le_of_ble_eq_true rfl) rfl ?_
  refine g_iload (by decide +kernel : decode prog_2_method_3_code 78 = .ok (.iload 6, 2)) rfl ?_
  refine g_tableIn (x := nI 12) (off := 253) (tgt := 333) (by decide +kernel : decode prog_2_method_3_code 80 = .ok (.tableswitch 442 10 61 #[224, 233, 253, 268, 442, 442, 442, 442, 442, 442, 284, 442, 442, 442, 442, 442, 442, 442, 442, 442, 296, 308, 442, 442, 442, 442, 442, 442, 442, 442, 334, 346, 442, 442, 442, 442, 442, 442, 442, 442, 372, 389, 442, 442, 442, 442, 442, 442, 442, 442, 404, 416], 224)) (by decide) (by decide) rfl (by decide) ?_
  refine g_aload_n (by decide +kernel : decode prog_2_method_3_code 333 = .ok (.aload_n 0, 1)) rfl ?_
  refine g_iload_n (by decide +kernel : decode prog_2_method_3_code 334 = .ok (.iload_n 3, 1)) rfl ?_
  refine g_aload_n (by decide +kernel : decode prog_2_method_3_code 335 = .ok (.aload_n 0, 1)) rfl ?_
  refine g_getI (by decide +kernel : decode prog_2_method_3_code 336 = .ok (.getfield 34, 3)) fl_Ac_34.get rfl rfl ?_
  refine g_top (w := nI a) (ha) ?_
  refine g_aload_n (by decide +kernel : decode prog_2_method_3_code 339 = .ok (.aload_n 0, 1)) rfl ?_
  refine g_getI (by decide +kernel : decode prog_2_method_3_code 340 = .ok (.getfield 28, 3)) fl_Ac_28.get rfl rfl ?_
  refine g_top (w := nI n) (hn) ?_
  refine g_isub (by decide +kernel : decode prog_2_method_3_code 343 = .ok (.isub, 1)) ?_
  refine g_callVI [.int x, .int ((nI a) - (nI n))] (by decide +kernel : decode prog_2_method_3_code 344 = .ok (.invokevirtual 47, 3)) lk_Ac_47 (r_quote σ (upd B r (nI 12)) (r + 1) (x) hn7 ha9 hna) rfl rfl rfl rfl (Nat.le_of_ble_eq_true rfl) (Nat.le_of_ble_eq_true rfl) (fun r344 s344 h344 => ?_)
  obtain ⟨rfl, rfl⟩ := h344
  exact g_iret hR (by decide +kernel : decode prog_2_method_3_code 347 = .ok (.ireturn, 1)) rfl ⟨_, rfl, ⟨rfl, rfl⟩⟩
set_option maxRecDepth 20000 in
theorem r_1_1_2d (σ : Store) (B : Row) (r : Nat) (x : Int32) {n a : Nat} (hk : σ 0 2 = nI 1) (hn : σ 0 3 = nI n) (ha : σ 0 4 = nI a) {d : Nat} (hd : d + 1 ≤ 12) (hr : r + 1 ≤ 30) (hn7 : n ≤ 7) (ha9 : a ≤ 9) (hna : n ≠ a) : Ct ΛA mt_Ac_run 1 [.ref 0, .int (nI 1), .int (nI 2), .int x, .int (nI d)] (bS σ B r 0) (PF (pP n a x) (bS σ (wl B r [nI 12]) (r + 1) 0)) := by
  refine Ct.of (by decide) (Nat.le_of_ble_eq_true rfl) (fun X hR => ?_)
  show G (ΛA, mt_Ac_run, 1) X (bS σ B r 0) [some (.ref 0), some (.int (nI 1)), some (.int (nI 2)), some (.int x), some (.int (nI d)), none, none, none] [] 0
  refine g_iload_n (by decide +kernel : decode prog_2_method_3_code 0 = .ok (.iload_n 1, 1)) rfl ?_
  refine g_iconst (v := nI 4) (by decide +kernel : decode prog_2_method_3_code 1 = .ok (.iconst 4, 1)) (by decide) ?_
  refine g_imulN (by decide +kernel : decode prog_2_method_3_code 2 = .ok (.imul, 1)) ?_
  refine g_iload_n (by decide +kernel : decode prog_2_method_3_code 3 = .ok (.iload_n 2, 1)) rfl ?_
  refine g_iadd (by decide +kernel : decode prog_2_method_3_code 4 = .ok (.iadd, 1)) ?_
  refine g_top (w := nI 6) (by decide) ?_
  refine g_istore (L' := [some (.ref 0), some (.int (nI 1)), some (.int (nI 2)), some (.int x), some (.int (nI d)), some (.int (nI 6)), none, none]) (by decide +kernel : decode prog_2_method_3_code 5 = .ok (.istore 5, 2)) (Nat.le_of_ble_eq_true rfl) rfl ?_
  refine g_iload (by decide +kernel : decode prog_2_method_3_code 7 = .ok (.iload 4, 2)) rfl ?_
  refine g_bipush (v := nI 12) (by decide +kernel : decode prog_2_method_3_code 9 = .ok (.bipush 12, 2)) (by decide) ?_
  refine g_icmp_gtN (tgt := 35) (by decide +kernel : decode prog_2_method_3_code 11 = .ok (.if_icmp .gt 24, 3)) (by decide) (by omega) (by decide) (fun h => absurd h (by omega)) (fun _ => ?_)
  refine g_aload_n (by decide +kernel : decode prog_2_method_3_code 14 = .ok (.aload_n 0, 1)) rfl ?_
  refine g_getI (by decide +kernel : decode prog_2_method_3_code 15 = .ok (.getfield 15, 3)) fl_Ac_15.get rfl rfl ?_
  refine g_top (w := nI 0) (rfl) ?_
  refine g_if_neN (tgt := 35) (by decide +kernel : decode prog_2_method_3_code 18 = .ok (.ifCond .ne 17, 3)) (by decide) (by decide) (fun h => False.elim (by revert h; decide)) (fun _ => ?_)
  refine g_iload (by decide +kernel : decode prog_2_method_3_code 21 = .ok (.iload 5, 2)) rfl ?_
  refine g_if_ltN (by decide +kernel : decode prog_2_method_3_code 23 = .ok (.ifCond .lt 12, 3)) (by decide) (by decide) ?_
  refine g_iload (by decide +kernel : decode prog_2_method_3_code 26 = .ok (.iload 5, 2)) rfl ?_
  refine g_gets (j := 3) (by decide +kernel : decode prog_2_method_3_code 28 = .ok (.getstatic 41, 3)) (by decide) sl_Ac_41 ?_
  refine g_rolen (j := 3) (by decide +kernel : decode prog_2_method_3_code 31 = .ok (.arraylength, 1)) (by decide) ?_
  refine g_icmp_ltN (tgt := 37) (by decide +kernel : decode prog_2_method_3_code 32 = .ok (.if_icmp .lt 5, 3)) (by decide) (by decide) (by decide) (fun _ => ?_) (fun h => absurd (by decide) h)
  refine g_gets (j := 3) (by decide +kernel : decode prog_2_method_3_code 37 = .ok (.getstatic 41, 3)) (by decide) sl_Ac_41 ?_
  refine g_iload (by decide +kernel : decode prog_2_method_3_code 40 = .ok (.iload 5, 2)) rfl ?_
  refine g_roload (j := 3) (a := 6) (by decide +kernel : decode prog_2_method_3_code 42 = .ok (.iaload, 1)) (by decide) rfl (by decide) ?_
  refine g_top (w := nI 12) (rfl) ?_
  refine g_istore (L' := [some (.ref 0), some (.int (nI 1)), some (.int (nI 2)), some (.int x), some (.int (nI d)), some (.int (nI 6)), some (.int (nI 12)), none]) (by decide +kernel : decode prog_2_method_3_code 43 = .ok (.istore 6, 2)) (Nat.le_of_ble_eq_true rfl) rfl ?_
  refine g_aload_n (by decide +kernel : decode prog_2_method_3_code 45 = .ok (.aload_n 0, 1)) rfl ?_
  refine g_getI (by decide +kernel : decode prog_2_method_3_code 46 = .ok (.getfield 44, 3)) fl_Ac_44.get rfl rfl ?_
  refine g_top (w := nI r) (rfl) ?_
  refine g_bipush (v := nI 30) (by decide +kernel : decode prog_2_method_3_code 49 = .ok (.bipush 30, 2)) (by decide) ?_
  refine g_icmp_geN (tgt := 72) (by decide +kernel : decode prog_2_method_3_code 51 = .ok (.if_icmp .ge 21, 3)) (by decide) (by omega) (by decide) (fun h => absurd h (by omega)) (fun _ => ?_)
  refine g_aload_n (by decide +kernel : decode prog_2_method_3_code 54 = .ok (.aload_n 0, 1)) rfl ?_
  refine g_getR (by decide +kernel : decode prog_2_method_3_code 55 = .ok (.getfield 9, 3)) fl_Ac_9 rfl rfl ?_
  refine g_aload_n (by decide +kernel : decode prog_2_method_3_code 58 = .ok (.aload_n 0, 1)) rfl ?_
  refine g_dup (by decide +kernel : decode prog_2_method_3_code 59 = .ok (.dup, 1)) rfl ?_
  refine g_getI (by decide +kernel : decode prog_2_method_3_code 60 = .ok (.getfield 44, 3)) fl_Ac_44.get rfl rfl ?_
  refine g_top (w := nI r) (rfl) ?_
  refine g_dup_x1 (by decide +kernel : decode prog_2_method_3_code 63 = .ok (.dup_x1, 1)) rfl rfl ?_
  refine g_iconst (v := nI 1) (by decide +kernel : decode prog_2_method_3_code 64 = .ok (.iconst 1, 1)) (by decide) ?_
  refine g_iaddN (by decide +kernel : decode prog_2_method_3_code 65 = .ok (.iadd, 1)) ?_
  refine g_putI (by decide +kernel : decode prog_2_method_3_code 66 = .ok (.putfield 44, 3)) fl_Ac_44 rfl rfl ?_
  refine g_sto (bS_r _ _ _ _ _) ?_
  refine g_iload (by decide +kernel : decode prog_2_method_3_code 69 = .ok (.iload 6, 2)) rfl ?_
  refine g_iastore (a := r) (by decide +kernel : decode prog_2_method_3_code 71 = .ok (.iastore, 1)) rfl rfl (by omega) (by decide) ?_
  refine g_sto (bS_1 _ _ _ _ _ _) ?_
  refine g_iload (by decide +kernel : decode prog_2_method_3_code 72 = .ok (.iload 4, 2)) rfl ?_
  refine g_iconst (v := nI 1) (by decide +kernel : decode prog_2_method_3_code 74 = .ok (.iconst 1, 1)) (by decide) ?_
  refine g_iaddN (by decide +kernel : decode prog_2_method_3_code 75 = .ok (.iadd, 1)) ?_
  refine g_istore (L' := [some (.ref 0), some (.int (nI 1)), some (.int (nI 2)), some (.int x), some (.int (nI d)), some (.int (nI 6)), some (.int (nI 12)), some (.int (nI (d + 1)))]) (by decide +kernel : decode prog_2_method_3_code 76 = .ok (.istore 7, 2)) (Nat.le_of_ble_eq_true rfl) rfl ?_
  refine g_iload (by decide +kernel : decode prog_2_method_3_code 78 = .ok (.iload 6, 2)) rfl ?_
  refine g_tableIn (x := nI 12) (off := 253) (tgt := 333) (by decide +kernel : decode prog_2_method_3_code 80 = .ok (.tableswitch 442 10 61 #[224, 233, 253, 268, 442, 442, 442, 442, 442, 442, 284, 442, 442, 442, 442, 442, 442, 442, 442, 442, 296, 308, 442, 442, 442, 442, 442, 442, 442, 442, 334, 346, 442, 442, 442, 442, 442, 442, 442, 442, 372, 389, 442, 442, 442, 442, 442, 442, 442, 442, 404, 416], 224)) (by decide) (by decide) rfl (by decide) ?_
  refine g_aload_n (by decide +kernel : decode prog_2_method_3_code 333 = .ok (.aload_n 0, 1)) rfl ?_
  refine g_iload_n (by decide +kernel : decode prog_2_method_3_code 334 = .ok (.iload_n 3, 1)) rfl ?_
  refine g_aload_n (by decide +kernel : decode prog_2_method_3_code 335 = .ok (.aload_n 0, 1)) rfl ?_
  refine g_getI (by decide +kernel : decode prog_2_method_3_code 336 = .ok (.getfield 34, 3)) fl_Ac_34.get rfl rfl ?_
  refine g_top (w := nI a) (ha) ?_
  refine g_aload_n (by decide +kernel : decode prog_2_method_3_code 339 = .ok (.aload_n 0, 1)) rfl ?_
  refine g_getI (by decide +kernel : decode prog_2_method_3_code 340 = .ok (.getfield 28, 3)) fl_Ac_28.get rfl rfl ?_
  refine g_top (w := nI n) (hn) ?_
  refine g_isub (by decide +kernel : decode prog_2_method_3_code 343 = .ok (.isub, 1)) ?_
  refine g_callVI [.int x, .int ((nI a) - (nI n))] (by decide +kernel : decode prog_2_method_3_code 344 = .ok (.invokevirtual 47, 3)) lk_Ac_47 (r_quotd σ (upd B r (nI 12)) (r + 1) (x) hn7 ha9 hna) rfl rfl rfl rfl (Nat.le_of_ble_eq_true rfl) (Nat.le_of_ble_eq_true rfl) (fun r344 s344 h344 => ?_)
  obtain ⟨rfl, rfl⟩ := h344
  exact g_iret hR (by decide +kernel : decode prog_2_method_3_code 347 = .ok (.ireturn, 1)) rfl ⟨_, rfl, ⟨rfl, rfl⟩⟩
set_option maxRecDepth 20000 in
theorem r_1_1_3 (σ : Store) (B : Row) (r : Nat) (x : Int32) {n a : Nat} (hk : σ 0 2 = nI 1) (hn : σ 0 3 = nI n) (ha : σ 0 4 = nI a) {d : Nat} (hd : d + 4 ≤ 12) (hr : r + 4 ≤ 30) : Ct ΛA mt_Ac_run 4 [.ref 0, .int (nI 1), .int (nI 3), .int x, .int (nI d)] (bS σ B r 0) (PF ((((x - nI (n * 2)) * nI 2 - nI a) + nI 5) ^^^ nI 12) (bS σ (wl B r [nI 13, nI 20, nI 11, nI 10]) (r + 4) 0)) := by
  refine Ct.of (by decide) (Nat.le_of_ble_eq_true rfl) (fun X hR => ?_)
  show G (ΛA, mt_Ac_run, 4) X (bS σ B r 0) [some (.ref 0), some (.int (nI 1)), some (.int (nI 3)), some (.int x), some (.int (nI d)), none, none, none] [] 0
  refine g_iload_n (by decide +kernel : decode prog_2_method_3_code 0 = .ok (.iload_n 1, 1)) rfl ?_
  refine g_iconst (v := nI 4) (by decide +kernel : decode prog_2_method_3_code 1 = .ok (.iconst 4, 1)) (by decide) ?_
  refine g_imulN (by decide +kernel : decode prog_2_method_3_code 2 = .ok (.imul, 1)) ?_
  refine g_iload_n (by decide +kernel : decode prog_2_method_3_code 3 = .ok (.iload_n 2, 1)) rfl ?_
  refine g_iadd (by decide +kernel : decode prog_2_method_3_code 4 = .ok (.iadd, 1)) ?_
  refine g_top (w := nI 7) (by decide) ?_
  refine g_istore (L' := [some (.ref 0), some (.int (nI 1)), some (.int (nI 3)), some (.int x), some (.int (nI d)), some (.int (nI 7)), none, none]) (by decide +kernel : decode prog_2_method_3_code 5 = .ok (.istore 5, 2)) (Nat.le_of_ble_eq_true rfl) rfl ?_
  refine g_iload (by decide +kernel : decode prog_2_method_3_code 7 = .ok (.iload 4, 2)) rfl ?_
  refine g_bipush (v := nI 12) (by decide +kernel : decode prog_2_method_3_code 9 = .ok (.bipush 12, 2)) (by decide) ?_
  refine g_icmp_gtN (tgt := 35) (by decide +kernel : decode prog_2_method_3_code 11 = .ok (.if_icmp .gt 24, 3)) (by decide) (by omega) (by decide) (fun h => absurd h (by omega)) (fun _ => ?_)
  refine g_aload_n (by decide +kernel : decode prog_2_method_3_code 14 = .ok (.aload_n 0, 1)) rfl ?_
  refine g_getI (by decide +kernel : decode prog_2_method_3_code 15 = .ok (.getfield 15, 3)) fl_Ac_15.get rfl rfl ?_
  refine g_top (w := nI 0) (rfl) ?_
  refine g_if_neN (tgt := 35) (by decide +kernel : decode prog_2_method_3_code 18 = .ok (.ifCond .ne 17, 3)) (by decide) (by decide) (fun h => False.elim (by revert h; decide)) (fun _ => ?_)
  refine g_iload (by decide +kernel : decode prog_2_method_3_code 21 = .ok (.iload 5, 2)) rfl ?_
  refine g_if_ltN (by decide +kernel : decode prog_2_method_3_code 23 = .ok (.ifCond .lt 12, 3)) (by decide) (by decide) ?_
  refine g_iload (by decide +kernel : decode prog_2_method_3_code 26 = .ok (.iload 5, 2)) rfl ?_
  refine g_gets (j := 3) (by decide +kernel : decode prog_2_method_3_code 28 = .ok (.getstatic 41, 3)) (by decide) sl_Ac_41 ?_
  refine g_rolen (j := 3) (by decide +kernel : decode prog_2_method_3_code 31 = .ok (.arraylength, 1)) (by decide) ?_
  refine g_icmp_ltN (tgt := 37) (by decide +kernel : decode prog_2_method_3_code 32 = .ok (.if_icmp .lt 5, 3)) (by decide) (by decide) (by decide) (fun _ => ?_) (fun h => absurd (by decide) h)
  refine g_gets (j := 3) (by decide +kernel : decode prog_2_method_3_code 37 = .ok (.getstatic 41, 3)) (by decide) sl_Ac_41 ?_
  refine g_iload (by decide +kernel : decode prog_2_method_3_code 40 = .ok (.iload 5, 2)) rfl ?_
  refine g_roload (j := 3) (a := 7) (by decide +kernel : decode prog_2_method_3_code 42 = .ok (.iaload, 1)) (by decide) rfl (by decide) ?_
  refine g_top (w := nI 13) (rfl) ?_
  refine g_istore (L' := [some (.ref 0), some (.int (nI 1)), some (.int (nI 3)), some (.int x), some (.int (nI d)), some (.int (nI 7)), some (.int (nI 13)), none]) (by decide +kernel : decode prog_2_method_3_code 43 = .ok (.istore 6, 2)) (Nat.le_of_ble_eq_true rfl) rfl ?_
  refine g_aload_n (by decide +kernel : decode prog_2_method_3_code 45 = .ok (.aload_n 0, 1)) rfl ?_
  refine g_getI (by decide +kernel : decode prog_2_method_3_code 46 = .ok (.getfield 44, 3)) fl_Ac_44.get rfl rfl ?_
  refine g_top (w := nI r) (rfl) ?_
  refine g_bipush (v := nI 30) (by decide +kernel : decode prog_2_method_3_code 49 = .ok (.bipush 30, 2)) (by decide) ?_
  refine g_icmp_geN (tgt := 72) (by decide +kernel : decode prog_2_method_3_code 51 = .ok (.if_icmp .ge 21, 3)) (by decide) (by omega) (by decide) (fun h => absurd h (by omega)) (fun _ => ?_)
  refine g_aload_n (by decide +kernel : decode prog_2_method_3_code 54 = .ok (.aload_n 0, 1)) rfl ?_
  refine g_getR (by decide +kernel : decode prog_2_method_3_code 55 = .ok (.getfield 9, 3)) fl_Ac_9 rfl rfl ?_
  refine g_aload_n (by decide +kernel : decode prog_2_method_3_code 58 = .ok (.aload_n 0, 1)) rfl ?_
  refine g_dup (by decide +kernel : decode prog_2_method_3_code 59 = .ok (.dup, 1)) rfl ?_
  refine g_getI (by decide +kernel : decode prog_2_method_3_code 60 = .ok (.getfield 44, 3)) fl_Ac_44.get rfl rfl ?_
  refine g_top (w := nI r) (rfl) ?_
  refine g_dup_x1 (by decide +kernel : decode prog_2_method_3_code 63 = .ok (.dup_x1, 1)) rfl rfl ?_
  refine g_iconst (v := nI 1) (by decide +kernel : decode prog_2_method_3_code 64 = .ok (.iconst 1, 1)) (by decide) ?_
  refine g_iaddN (by decide +kernel : decode prog_2_method_3_code 65 = .ok (.iadd, 1)) ?_
  refine g_putI (by decide +kernel : decode prog_2_method_3_code 66 = .ok (.putfield 44, 3)) fl_Ac_44 rfl rfl ?_
  refine g_sto (bS_r _ _ _ _ _) ?_
  refine g_iload (by decide +kernel : decode prog_2_method_3_code 69 = .ok (.iload 6, 2)) rfl ?_
  refine g_iastore (a := r) (by decide +kernel : decode prog_2_method_3_code 71 = .ok (.iastore, 1)) rfl rfl (by omega) (by decide) ?_
  refine g_sto (bS_1 _ _ _ _ _ _) ?_
  refine g_iload (by decide +kernel : decode prog_2_method_3_code 72 = .ok (.iload 4, 2)) rfl ?_
  refine g_iconst (v := nI 1) (by decide +kernel : decode prog_2_method_3_code 74 = .ok (.iconst 1, 1)) (by decide) ?_
  refine g_iaddN (by decide +kernel : decode prog_2_method_3_code 75 = .ok (.iadd, 1)) ?_
  refine g_istore (L' := [some (.ref 0), some (.int (nI 1)), some (.int (nI 3)), some (.int x), some (.int (nI d)), some (.int (nI 7)), some (.int (nI 13)), some (.int (nI (d + 1)))]) (by decide +kernel : decode prog_2_method_3_code 76 = .ok (.istore 7, 2)) (Nat.le_of_ble_eq_true rfl) rfl ?_
  refine g_iload (by decide +kernel : decode prog_2_method_3_code 78 = .ok (.iload 6, 2)) rfl ?_
  refine g_tableIn (x := nI 13) (off := 268) (tgt := 348) (by decide +kernel : decode prog_2_method_3_code 80 = .ok (.tableswitch 442 10 61 #[224, 233, 253, 268, 442, 442, 442, 442, 442, 442, 284, 442, 442, 442, 442, 442, 442, 442, 442, 442, 296, 308, 442, 442, 442, 442, 442, 442, 442, 442, 334, 346, 442, 442, 442, 442, 442, 442, 442, 442, 372, 389, 442, 442, 442, 442, 442, 442, 442, 442, 404, 416], 224)) (by decide) (by decide) rfl (by decide) ?_
  refine g_aload_n (by decide +kernel : decode prog_2_method_3_code 348 = .ok (.aload_n 0, 1)) rfl ?_
  refine g_aload_n (by decide +kernel : decode prog_2_method_3_code 349 = .ok (.aload_n 0, 1)) rfl ?_
  refine g_getI (by decide +kernel : decode prog_2_method_3_code 350 = .ok (.getfield 24, 3)) fl_Ac_24.get rfl rfl ?_
  refine g_top (w := nI 1) (hk) ?_
  refine g_iconst (v := nI 1) (by decide +kernel : decode prog_2_method_3_code 353 = .ok (.iconst 1, 1)) (by decide) ?_
  refine g_iload_n (by decide +kernel : decode prog_2_method_3_code 354 = .ok (.iload_n 3, 1)) rfl ?_
  refine g_iload (by decide +kernel : decode prog_2_method_3_code 355 = .ok (.iload 7, 2)) rfl ?_
  refine g_callVI [.int (nI 1), .int (nI 1), .int x, .int (nI (d + 1))] (by decide +kernel : decode prog_2_method_3_code 357 = .ok (.invokevirtual 37, 3)) lk_Ac_37 (r_1_1_1 σ (upd B r (nI 13)) (r + 1) (x) hk hn ha (d := (d + 1)) (by omega) (by omega)) rfl rfl rfl rfl (Nat.le_of_ble_eq_true rfl) (Nat.le_of_ble_eq_true rfl) (fun r357 s357 h357 => ?_)
  obtain ⟨rfl, rfl⟩ := h357
  refine g_bipush (v := nI 12) (by decide +kernel : decode prog_2_method_3_code 360 = .ok (.bipush 12, 2)) (by decide) ?_
  refine g_ixor (by decide +kernel : decode prog_2_method_3_code 362 = .ok (.ixor, 1)) ?_
  exact g_iret hR (by decide +kernel : decode prog_2_method_3_code 363 = .ok (.ireturn, 1)) rfl ⟨_, rfl, ⟨rfl, rfl⟩⟩
set_option maxRecDepth 20000 in
theorem r_2_0_0 (σ : Store) (B : Row) (r : Nat) (x : Int32) {n a : Nat} (hk : σ 0 2 = nI 2) (hn : σ 0 3 = nI n) (ha : σ 0 4 = nI a) {d : Nat} (hd : d + 1 ≤ 12) (hr : r + 1 ≤ 30) : Ct ΛA mt_Ac_run 1 [.ref 0, .int (nI 0), .int (nI 0), .int x, .int (nI d)] (bS σ B r 0) (PF (x - nI (n * 2)) (bS σ (wl B r [nI 10]) (r + 1) 0)) := by
  refine Ct.of (by decide) (Nat.le_of_ble_eq_true rfl) (fun X hR => ?_)
  show G (ΛA, mt_Ac_run, 1) X (bS σ B r 0) [some (.ref 0), some (.int (nI 0)), some (.int (nI 0)), some (.int x), some (.int (nI d)), none, none, none] [] 0
  refine g_iload_n (by decide +kernel : decode prog_2_method_3_code 0 = .ok (.iload_n 1, 1)) rfl ?_
  refine g_iconst (v := nI 4) (by decide +kernel : decode prog_2_method_3_code 1 = .ok (.iconst 4, 1)) (by decide) ?_
  refine g_imulN (by decide +kernel : decode prog_2_method_3_code 2 = .ok (.imul, 1)) ?_
  refine g_iload_n (by decide +kernel : decode prog_2_method_3_code 3 = .ok (.iload_n 2, 1)) rfl ?_
  refine g_iadd (by decide +kernel : decode prog_2_method_3_code 4 = .ok (.iadd, 1)) ?_
  refine g_top (w := nI 0) (by decide) ?_
  refine g_istore (L' := [some (.ref 0), some (.int (nI 0)), some (.int (nI 0)), some (.int x), some (.int (nI d)), some (.int (nI 0)), none, none]) (by decide +kernel : decode prog_2_method_3_code 5 = .ok (.istore 5, 2)) (Nat.le_of_ble_eq_true rfl) rfl ?_
  refine g_iload (by decide +kernel : decode prog_2_method_3_code 7 = .ok (.iload 4, 2)) rfl ?_
  refine g_bipush (v := nI 12) (by decide +kernel : decode prog_2_method_3_code 9 = .ok (.bipush 12, 2)) (by decide) ?_
  refine g_icmp_gtN (tgt := 35) (by decide +kernel : decode prog_2_method_3_code 11 = .ok (.if_icmp .gt 24, 3)) (by decide) (by omega) (by decide) (fun h => absurd h (by omega)) (fun _ => ?_)
  refine g_aload_n (by decide +kernel : decode prog_2_method_3_code 14 = .ok (.aload_n 0, 1)) rfl ?_
  refine g_getI (by decide +kernel : decode prog_2_method_3_code 15 = .ok (.getfield 15, 3)) fl_Ac_15.get rfl rfl ?_
  refine g_top (w := nI 0) (rfl) ?_
  refine g_if_neN (tgt := 35) (by decide +kernel : decode prog_2_method_3_code 18 = .ok (.ifCond .ne 17, 3)) (by decide) (by decide) (fun h => False.elim (by revert h; decide)) (fun _ => ?_)
  refine g_iload (by decide +kernel : decode prog_2_method_3_code 21 = .ok (.iload 5, 2)) rfl ?_
  refine g_if_ltN (by decide +kernel : decode prog_2_method_3_code 23 = .ok (.ifCond .lt 12, 3)) (by decide) (by decide) ?_
  refine g_iload (by decide +kernel : decode prog_2_method_3_code 26 = .ok (.iload 5, 2)) rfl ?_
  refine g_gets (j := 3) (by decide +kernel : decode prog_2_method_3_code 28 = .ok (.getstatic 41, 3)) (by decide) sl_Ac_41 ?_
  refine g_rolen (j := 3) (by decide +kernel : decode prog_2_method_3_code 31 = .ok (.arraylength, 1)) (by decide) ?_
  refine g_icmp_ltN (tgt := 37) (by decide +kernel : decode prog_2_method_3_code 32 = .ok (.if_icmp .lt 5, 3)) (by decide) (by decide) (by decide) (fun _ => ?_) (fun h => absurd (by decide) h)
  refine g_gets (j := 3) (by decide +kernel : decode prog_2_method_3_code 37 = .ok (.getstatic 41, 3)) (by decide) sl_Ac_41 ?_
  refine g_iload (by decide +kernel : decode prog_2_method_3_code 40 = .ok (.iload 5, 2)) rfl ?_
  refine g_roload (j := 3) (a := 0) (by decide +kernel : decode prog_2_method_3_code 42 = .ok (.iaload, 1)) (by decide) rfl (by decide) ?_
  refine g_top (w := nI 10) (rfl) ?_
  refine g_istore (L' := [some (.ref 0), some (.int (nI 0)), some (.int (nI 0)), some (.int x), some (.int (nI d)), some (.int (nI 0)), some (.int (nI 10)), none]) (by decide +kernel : decode prog_2_method_3_code 43 = .ok (.istore 6, 2)) (Nat.le_of_ble_eq_true rfl) rfl ?_
  refine g_aload_n (by decide +kernel : decode prog_2_method_3_code 45 = .ok (.aload_n 0, 1)) rfl ?_
  refine g_getI (by decide +kernel : decode prog_2_method_3_code 46 = .ok (.getfield 44, 3)) fl_Ac_44.get rfl rfl ?_
  refine g_top (w := nI r) (rfl) ?_
  refine g_bipush (v := nI 30) (by decide +kernel : decode prog_2_method_3_code 49 = .ok (.bipush 30, 2)) (by decide) ?_
  refine g_icmp_geN (tgt := 72) (by decide +kernel : decode prog_2_method_3_code 51 = .ok (.if_icmp .ge 21, 3)) (by decide) (by omega) (by decide) (fun h => absurd h (by omega)) (fun _ => ?_)
  refine g_aload_n (by decide +kernel : decode prog_2_method_3_code 54 = .ok (.aload_n 0, 1)) rfl ?_
  refine g_getR (by decide +kernel : decode prog_2_method_3_code 55 = .ok (.getfield 9, 3)) fl_Ac_9 rfl rfl ?_
  refine g_aload_n (by decide +kernel : decode prog_2_method_3_code 58 = .ok (.aload_n 0, 1)) rfl ?_
  refine g_dup (by decide +kernel : decode prog_2_method_3_code 59 = .ok (.dup, 1)) rfl ?_
  refine g_getI (by decide +kernel : decode prog_2_method_3_code 60 = .ok (.getfield 44, 3)) fl_Ac_44.get rfl rfl ?_
  refine g_top (w := nI r) (rfl) ?_
  refine g_dup_x1 (by decide +kernel : decode prog_2_method_3_code 63 = .ok (.dup_x1, 1)) rfl rfl ?_
  refine g_iconst (v := nI 1) (by decide +kernel : decode prog_2_method_3_code 64 = .ok (.iconst 1, 1)) (by decide) ?_
  refine g_iaddN (by decide +kernel : decode prog_2_method_3_code 65 = .ok (.iadd, 1)) ?_
  refine g_putI (by decide +kernel : decode prog_2_method_3_code 66 = .ok (.putfield 44, 3)) fl_Ac_44 rfl rfl ?_
  refine g_sto (bS_r _ _ _ _ _) ?_
  refine g_iload (by decide +kernel : decode prog_2_method_3_code 69 = .ok (.iload 6, 2)) rfl ?_
  refine g_iastore (a := r) (by decide +kernel : decode prog_2_method_3_code 71 = .ok (.iastore, 1)) rfl rfl (by omega) (by decide) ?_
  refine g_sto (bS_1 _ _ _ _ _ _) ?_
  refine g_iload (by decide +kernel : decode prog_2_method_3_code 72 = .ok (.iload 4, 2)) rfl ?_
  refine g_iconst (v := nI 1) (by decide +kernel : decode prog_2_method_3_code 74 = .ok (.iconst 1, 1)) (by decide) ?_
  refine g_iaddN (by decide +kernel : decode prog_2_method_3_code 75 = .ok (.iadd, 1)) ?_
  refine g_istore (L' := [some (.ref 0), some (.int (nI 0)), some (.int (nI 0)), some (.int x), some (.int (nI d)), some (.int (nI 0)), some (.int (nI 10)), some (.int (nI (d + 1)))]) (by decide +kernel : decode prog_2_method_3_code 76 = .ok (.istore 7, 2)) (Nat.le_of_ble_eq_true rfl) rfl ?_
  refine g_iload (by decide +kernel : decode prog_2_method_3_code 78 = .ok (.iload 6, 2)) rfl ?_
  refine g_tableIn (x := nI 10) (off := 224) (tgt := 304) (by decide +kernel : decode prog_2_method_3_code 80 = .ok (.tableswitch 442 10 61 #[224, 233, 253, 268, 442, 442, 442, 442, 442, 442, 284, 442, 442, 442, 442, 442, 442, 442, 442, 442, 296, 308, 442, 442, 442, 442, 442, 442, 442, 442, 334, 346, 442, 442, 442, 442, 442, 442, 442, 442, 372, 389, 442, 442, 442, 442, 442, 442, 442, 442, 404, 416], 224)) (by decide) (by decide) rfl (by decide) ?_
  refine g_iload_n (by decide +kernel : decode prog_2_method_3_code 304 = .ok (.iload_n 3, 1)) rfl ?_
  refine g_aload_n (by decide +kernel : decode prog_2_method_3_code 305 = .ok (.aload_n 0, 1)) rfl ?_
  refine g_getI (by decide +kernel : decode prog_2_method_3_code 306 = .ok (.getfield 28, 3)) fl_Ac_28.get rfl rfl ?_
  refine g_top (w := nI n) (hn) ?_
  refine g_iconst (v := nI 2) (by decide +kernel : decode prog_2_method_3_code 309 = .ok (.iconst 2, 1)) (by decide) ?_
  refine g_imulN (by decide +kernel : decode prog_2_method_3_code 310 = .ok (.imul, 1)) ?_
  refine g_isub (by decide +kernel : decode prog_2_method_3_code 311 = .ok (.isub, 1)) ?_
  exact g_iret hR (by decide +kernel : decode prog_2_method_3_code 312 = .ok (.ireturn, 1)) rfl ⟨_, rfl, ⟨rfl, rfl⟩⟩
set_option maxRecDepth 20000 in
theorem r_2_2_0 (σ : Store) (B : Row) (r : Nat) (x : Int32) {n a : Nat} (hk : σ 0 2 = nI 2) (hn : σ 0 3 = nI n) (ha : σ 0 4 = nI a) {d : Nat} (hd : d + 2 ≤ 12) (hr : r + 2 ≤ 30) : Ct ΛA mt_Ac_run 2 [.ref 0, .int (nI 2), .int (nI 0), .int x, .int (nI d)] (bS σ B r 0) (PF ((x - nI (n * 2)) ^^^ nI 3) (bS σ (wl B r [nI 30, nI 10]) (r + 2) 0)) := by
  refine Ct.of (by decide) (Nat.le_of_ble_eq_true rfl) (fun X hR => ?_)
  show G (ΛA, mt_Ac_run, 2) X (bS σ B r 0) [some (.ref 0), some (.int (nI 2)), some (.int (nI 0)), some (.int x), some (.int (nI d)), none, none, none] [] 0
  refine g_iload_n (by decide +kernel : decode prog_2_method_3_code 0 = .ok (.iload_n 1, 1)) rfl ?_
  refine g_iconst (v := nI 4) (by decide +kernel : decode prog_2_method_3_code 1 = .ok (.iconst 4, 1)) (by decide) ?_
  refine g_imulN (by decide +kernel : decode prog_2_method_3_code 2 = .ok (.imul, 1)) ?_
  refine g_iload_n (by decide +kernel : decode prog_2_method_3_code 3 = .ok (.iload_n 2, 1)) rfl ?_
  refine g_iadd (by decide +kernel : decode prog_2_method_3_code 4 = .ok (.iadd, 1)) ?_
  refine g_top (w := nI 8) (by decide) ?_
  refine g_istore (L' := [some (.ref 0), some (.int (nI 2)), some (.int (nI 0)), some (.int x), some (.int (nI d)), some (.int (nI 8)), none, none]) (by decide +kernel : decode prog_2_method_3_code 5 = .ok (.istore 5, 2)) (Nat.le_of_ble_eq_true rfl) rfl ?_
  refine g_iload (by decide +kernel : decode prog_2_method_3_code 7 = .ok (.iload 4, 2)) rfl ?_
  refine g_bipush (v := nI 12) (by decide +kernel : decode prog_2_method_3_code 9 = .ok (.bipush 12, 2)) (by decide) ?_
  refine g_icmp_gtN (tgt := 35) (by decide +kernel : decode prog_2_method_3_code 11 = .ok (.if_icmp .gt 24, 3)) (by decide) (by omega) (by decide) (fun h => absurd h (by omega)) (fun _ => ?_)
  refine g_aload_n (by decide +kernel : decode prog_2_method_3_code 14 = .ok (.aload_n 0, 1)) rfl ?_
  refine g_getI (by decide +kernel : decode prog_2_method_3_code 15 = .ok (.getfield 15, 3)) fl_Ac_15.get rfl rfl ?_
  refine g_top (w := nI 0) (rfl) ?_
  refine g_if_neN (tgt := 35) (by decide +kernel : decode prog_2_method_3_code 18 = .ok (.ifCond .ne 17, 3)) (by decide) (by decide) (fun h => False.elim (by revert h; decide)) (fun _ => ?_)
  refine g_iload (by decide +kernel : decode prog_2_method_3_code 21 = .ok (.iload 5, 2)) rfl ?_
  refine g_if_ltN (by decide +kernel : decode prog_2_method_3_code 23 = .ok (.ifCond .lt 12, 3)) (by decide) (by decide) ?_
  refine g_iload (by decide +kernel : decode prog_2_method_3_code 26 = .ok (.iload 5, 2)) rfl ?_
  refine g_gets (j := 3) (by decide +kernel : decode prog_2_method_3_code 28 = .ok (.getstatic 41, 3)) (by decide) sl_Ac_41 ?_
  refine g_rolen (j := 3) (by decide +kernel : decode prog_2_method_3_code 31 = .ok (.arraylength, 1)) (by decide) ?_
  refine g_icmp_ltN (tgt := 37) (by decide +kernel : decode prog_2_method_3_code 32 = .ok (.if_icmp .lt 5, 3)) (by decide) (by decide) (by decide) (fun _ => ?_) (fun h => absurd (by decide) h)
  refine g_gets (j := 3) (by decide +kernel : decode prog_2_method_3_code 37 = .ok (.getstatic 41, 3)) (by decide) sl_Ac_41 ?_
  refine g_iload (by decide +kernel : decode prog_2_method_3_code 40 = .ok (.iload 5, 2)) rfl ?_
  refine g_roload (j := 3) (a := 8) (by decide +kernel : decode prog_2_method_3_code 42 = .ok (.iaload, 1)) (by decide) rfl (by decide) ?_
  refine g_top (w := nI 30) (rfl) ?_
  refine g_istore (L' := [some (.ref 0), some (.int (nI 2)), some (.int (nI 0)), some (.int x), some (.int (nI d)), some (.int (nI 8)), some (.int (nI 30)), none]) (by decide +kernel : decode prog_2_method_3_code 43 = .ok (.istore 6, 2)) (Nat.le_of_ble_eq_true rfl) rfl ?_
  refine g_aload_n (by decide +kernel : decode prog_2_method_3_code 45 = .ok (.aload_n 0, 1)) rfl ?_
  refine g_getI (by decide +kernel : decode prog_2_method_3_code 46 = .ok (.getfield 44, 3)) fl_Ac_44.get rfl rfl ?_
  refine g_top (w := nI r) (rfl) ?_
  refine g_bipush (v := nI 30) (by decide +kernel : decode prog_2_method_3_code 49 = .ok (.bipush 30, 2)) (by decide) ?_
  refine g_icmp_geN (tgt := 72) (by decide +kernel : decode prog_2_method_3_code 51 = .ok (.if_icmp .ge 21, 3)) (by decide) (by omega) (by decide) (fun h => absurd h (by omega)) (fun _ => ?_)
  refine g_aload_n (by decide +kernel : decode prog_2_method_3_code 54 = .ok (.aload_n 0, 1)) rfl ?_
  refine g_getR (by decide +kernel : decode prog_2_method_3_code 55 = .ok (.getfield 9, 3)) fl_Ac_9 rfl rfl ?_
  refine g_aload_n (by decide +kernel : decode prog_2_method_3_code 58 = .ok (.aload_n 0, 1)) rfl ?_
  refine g_dup (by decide +kernel : decode prog_2_method_3_code 59 = .ok (.dup, 1)) rfl ?_
  refine g_getI (by decide +kernel : decode prog_2_method_3_code 60 = .ok (.getfield 44, 3)) fl_Ac_44.get rfl rfl ?_
  refine g_top (w := nI r) (rfl) ?_
  refine g_dup_x1 (by decide +kernel : decode prog_2_method_3_code 63 = .ok (.dup_x1, 1)) rfl rfl ?_
  refine g_iconst (v := nI 1) (by decide +kernel : decode prog_2_method_3_code 64 = .ok (.iconst 1, 1)) (by decide) ?_
  refine g_iaddN (by decide +kernel : decode prog_2_method_3_code 65 = .ok (.iadd, 1)) ?_
  refine g_putI (by decide +kernel : decode prog_2_method_3_code 66 = .ok (.putfield 44, 3)) fl_Ac_44 rfl rfl ?_
  refine g_sto (bS_r _ _ _ _ _) ?_
  refine g_iload (by decide +kernel : decode prog_2_method_3_code 69 = .ok (.iload 6, 2)) rfl ?_
  refine g_iastore (a := r) (by decide +kernel : decode prog_2_method_3_code 71 = .ok (.iastore, 1)) rfl rfl (by omega) (by decide) ?_
  refine g_sto (bS_1 _ _ _ _ _ _) ?_
  refine g_iload (by decide +kernel : decode prog_2_method_3_code 72 = .ok (.iload 4, 2)) rfl ?_
  refine g_iconst (v := nI 1) (by decide +kernel : decode prog_2_method_3_code 74 = .ok (.iconst 1, 1)) (by decide) ?_
  refine g_iaddN (by decide +kernel : decode prog_2_method_3_code 75 = .ok (.iadd, 1)) ?_
  refine g_istore (L' := [some (.ref 0), some (.int (nI 2)), some (.int (nI 0)), some (.int x), some (.int (nI d)), some (.int (nI 8)), some (.int (nI 30)), some (.int (nI (d + 1)))]) (by decide +kernel : decode prog_2_method_3_code 76 = .ok (.istore 7, 2)) (Nat.le_of_ble_eq_true rfl) rfl ?_
  refine g_iload (by decide +kernel : decode prog_2_method_3_code 78 = .ok (.iload 6, 2)) rfl ?_
  refine g_tableIn (x := nI 30) (off := 296) (tgt := 376) (by decide +kernel : decode prog_2_method_3_code 80 = .ok (.tableswitch 442 10 61 #[224, 233, 253, 268, 442, 442, 442, 442, 442, 442, 284, 442, 442, 442, 442, 442, 442, 442, 442, 442, 296, 308, 442, 442, 442, 442, 442, 442, 442, 442, 334, 346, 442, 442, 442, 442, 442, 442, 442, 442, 372, 389, 442, 442, 442, 442, 442, 442, 442, 442, 404, 416], 224)) (by decide) (by decide) rfl (by decide) ?_
  refine g_aload_n (by decide +kernel : decode prog_2_method_3_code 376 = .ok (.aload_n 0, 1)) rfl ?_
  refine g_iconst (v := nI 0) (by decide +kernel : decode prog_2_method_3_code 377 = .ok (.iconst 0, 1)) (by decide) ?_
  refine g_iconst (v := nI 0) (by decide +kernel : decode prog_2_method_3_code 378 = .ok (.iconst 0, 1)) (by decide) ?_
  refine g_iload_n (by decide +kernel : decode prog_2_method_3_code 379 = .ok (.iload_n 3, 1)) rfl ?_
  refine g_iload (by decide +kernel : decode prog_2_method_3_code 380 = .ok (.iload 7, 2)) rfl ?_
  refine g_callVI [.int (nI 0), .int (nI 0), .int x, .int (nI (d + 1))] (by decide +kernel : decode prog_2_method_3_code 382 = .ok (.invokevirtual 37, 3)) lk_Ac_37 (r_2_0_0 σ (upd B r (nI 30)) (r + 1) (x) hk hn ha (d := (d + 1)) (by omega) (by omega)) rfl rfl rfl rfl (Nat.le_of_ble_eq_true rfl) (Nat.le_of_ble_eq_true rfl) (fun r382 s382 h382 => ?_)
  obtain ⟨rfl, rfl⟩ := h382
  refine g_iconst (v := nI 3) (by decide +kernel : decode prog_2_method_3_code 385 = .ok (.iconst 3, 1)) (by decide) ?_
  refine g_ixor (by decide +kernel : decode prog_2_method_3_code 386 = .ok (.ixor, 1)) ?_
  exact g_iret hR (by decide +kernel : decode prog_2_method_3_code 387 = .ok (.ireturn, 1)) rfl ⟨_, rfl, ⟨rfl, rfl⟩⟩
set_option maxRecDepth 20000 in
theorem r_2_2_1 (σ : Store) (B : Row) (r : Nat) (x : Int32) {n a : Nat} (hk : σ 0 2 = nI 2) (hn : σ 0 3 = nI n) (ha : σ 0 4 = nI a) {d : Nat} (hd : d + 3 ≤ 12) (hr : r + 3 ≤ 30) : Ct ΛA mt_Ac_run 3 [.ref 0, .int (nI 2), .int (nI 1), .int x, .int (nI d)] (bS σ B r 0) (PF (((x - nI (n * 2)) ^^^ nI 3) * nI 2 - nI a) (bS σ (wl B r [nI 11, nI 30, nI 10]) (r + 3) 0)) := by
  refine Ct.of (by decide) (Nat.le_of_ble_eq_true rfl) (fun X hR => ?_)
  show G (ΛA, mt_Ac_run, 3) X (bS σ B r 0) [some (.ref 0), some (.int (nI 2)), some (.int (nI 1)), some (.int x), some (.int (nI d)), none, none, none] [] 0
  refine g_iload_n (by decide +kernel : decode prog_2_method_3_code 0 = .ok (.iload_n 1, 1)) rfl ?_
  refine g_iconst (v := nI 4) (by decide +kernel : decode prog_2_method_3_code 1 = .ok (.iconst 4, 1)) (by decide) ?_
  refine g_imulN (by decide +kernel : decode prog_2_method_3_code 2 = .ok (.imul, 1)) ?_
  refine g_iload_n (by decide +kernel : decode prog_2_method_3_code 3 = .ok (.iload_n 2, 1)) rfl ?_
  refine g_iadd (by decide +kernel : decode prog_2_method_3_code 4 = .ok (.iadd, 1)) ?_
  refine g_top (w := nI 9) (by decide) ?_
  refine g_istore (L' := [some (.ref 0), some (.int (nI 2)), some (.int (nI 1)), some (.int x), some (.int (nI d)), some (.int (nI 9)), none, none]) (by decide +kernel : decode prog_2_method_3_code 5 = .ok (.istore 5, 2)) (Nat.le_of_ble_eq_true rfl) rfl ?_
  refine g_iload (by decide +kernel : decode prog_2_method_3_code 7 = .ok (.iload 4, 2)) rfl ?_
  refine g_bipush (v := nI 12) (by decide +kernel : decode prog_2_method_3_code 9 = .ok (.bipush 12, 2)) (by decide) ?_
  refine g_icmp_gtN (tgt := 35) (by decide +kernel : decode prog_2_method_3_code 11 = .ok (.if_icmp .gt 24, 3)) (by decide) (by omega) (by decide) (fun h => absurd h (by omega)) (fun _ => ?_)
  refine g_aload_n (by decide +kernel : decode prog_2_method_3_code 14 = .ok (.aload_n 0, 1)) rfl ?_
  refine g_getI (by decide +kernel : decode prog_2_method_3_code 15 = .ok (.getfield 15, 3)) fl_Ac_15.get rfl rfl ?_
  refine g_top (w := nI 0) (rfl) ?_
  refine g_if_neN (tgt := 35) (by decide +kernel : decode prog_2_method_3_code 18 = .ok (.ifCond .ne 17, 3)) (by decide) (by decide) (fun h => False.elim (by revert h; decide)) (fun _ => ?_)
  refine g_iload (by decide +kernel : decode prog_2_method_3_code 21 = .ok (.iload 5, 2)) rfl ?_
  refine g_if_ltN (by decide +kernel : decode prog_2_method_3_code 23 = .ok (.ifCond .lt 12, 3)) (by decide) (by decide) ?_
  refine g_iload (by decide +kernel : decode prog_2_method_3_code 26 = .ok (.iload 5, 2)) rfl ?_
  refine g_gets (j := 3) (by decide +kernel : decode prog_2_method_3_code 28 = .ok (.getstatic 41, 3)) (by decide) sl_Ac_41 ?_
  refine g_rolen (j := 3) (by decide +kernel : decode prog_2_method_3_code 31 = .ok (.arraylength, 1)) (by decide) ?_
  refine g_icmp_ltN (tgt := 37) (by decide +kernel : decode prog_2_method_3_code 32 = .ok (.if_icmp .lt 5, 3)) (by decide) (by decide) (by decide) (fun _ => ?_) (fun h => absurd (by decide) h)
  refine g_gets (j := 3) (by decide +kernel : decode prog_2_method_3_code 37 = .ok (.getstatic 41, 3)) (by decide) sl_Ac_41 ?_
  refine g_iload (by decide +kernel : decode prog_2_method_3_code 40 = .ok (.iload 5, 2)) rfl ?_
  refine g_roload (j := 3) (a := 9) (by decide +kernel : decode prog_2_method_3_code 42 = .ok (.iaload, 1)) (by decide) rfl (by decide) ?_
  refine g_top (w := nI 11) (rfl) ?_
  refine g_istore (L' := [some (.ref 0), some (.int (nI 2)), some (.int (nI 1)), some (.int x), some (.int (nI d)), some (.int (nI 9)), some (.int (nI 11)), none]) (by decide +kernel : decode prog_2_method_3_code 43 = .ok (.istore 6, 2)) (Nat.le_of_ble_eq_true rfl) rfl ?_
  refine g_aload_n (by decide +kernel : decode prog_2_method_3_code 45 = .ok (.aload_n 0, 1)) rfl ?_
  refine g_getI (by decide +kernel : decode prog_2_method_3_code 46 = .ok (.getfield 44, 3)) fl_Ac_44.get rfl rfl ?_
  refine g_top (w := nI r) (rfl) ?_
  refine g_bipush (v := nI 30) (by decide +kernel : decode prog_2_method_3_code 49 = .ok (.bipush 30, 2)) (by decide) ?_
  refine g_icmp_geN (tgt := 72) (by decide +kernel : decode prog_2_method_3_code 51 = .ok (.if_icmp .ge 21, 3)) (by decide) (by omega) (by decide) (fun h => absurd h (by omega)) (fun _ => ?_)
  refine g_aload_n (by decide +kernel : decode prog_2_method_3_code 54 = .ok (.aload_n 0, 1)) rfl ?_
  refine g_getR (by decide +kernel : decode prog_2_method_3_code 55 = .ok (.getfield 9, 3)) fl_Ac_9 rfl rfl ?_
  refine g_aload_n (by decide +kernel : decode prog_2_method_3_code 58 = .ok (.aload_n 0, 1)) rfl ?_
  refine g_dup (by decide +kernel : decode prog_2_method_3_code 59 = .ok (.dup, 1)) rfl ?_
  refine g_getI (by decide +kernel : decode prog_2_method_3_code 60 = .ok (.getfield 44, 3)) fl_Ac_44.get rfl rfl ?_
  refine g_top (w := nI r) (rfl) ?_
  refine g_dup_x1 (by decide +kernel : decode prog_2_method_3_code 63 = .ok (.dup_x1, 1)) rfl rfl ?_
  refine g_iconst (v := nI 1) (by decide +kernel : decode prog_2_method_3_code 64 = .ok (.iconst 1, 1)) (by decide) ?_
  refine g_iaddN (by decide +kernel : decode prog_2_method_3_code 65 = .ok (.iadd, 1)) ?_
  refine g_putI (by decide +kernel : decode prog_2_method_3_code 66 = .ok (.putfield 44, 3)) fl_Ac_44 rfl rfl ?_
  refine g_sto (bS_r _ _ _ _ _) ?_
  refine g_iload (by decide +kernel : decode prog_2_method_3_code 69 = .ok (.iload 6, 2)) rfl ?_
  refine g_iastore (a := r) (by decide +kernel : decode prog_2_method_3_code 71 = .ok (.iastore, 1)) rfl rfl (by omega) (by decide) ?_
  refine g_sto (bS_1 _ _ _ _ _ _) ?_
  refine g_iload (by decide +kernel : decode prog_2_method_3_code 72 = .ok (.iload 4, 2)) rfl ?_
  refine g_iconst (v := nI 1) (by decide +kernel : decode prog_2_method_3_code 74 = .ok (.iconst 1, 1)) (by decide) ?_
  refine g_iaddN (by decide +kernel : decode prog_2_method_3_code 75 = .ok (.iadd, 1)) ?_
  refine g_istore (L' := [some (.ref 0), some (.int (nI 2)), some (.int (nI 1)), some (.int x), some (.int (nI d)), some (.int (nI 9)), some (.int (nI 11)), some (.int (nI (d + 1)))]) (by decide +kernel : decode prog_2_method_3_code 76 = .ok (.istore 7, 2)) (Nat.le_of_ble_eq_true rfl) rfl ?_
  refine g_iload (by decide +kernel : decode prog_2_method_3_code 78 = .ok (.iload 6, 2)) rfl ?_
  refine g_tableIn (x := nI 11) (off := 233) (tgt := 313) (by decide +kernel : decode prog_2_method_3_code 80 = .ok (.tableswitch 442 10 61 #[224, 233, 253, 268, 442, 442, 442, 442, 442, 442, 284, 442, 442, 442, 442, 442, 442, 442, 442, 442, 296, 308, 442, 442, 442, 442, 442, 442, 442, 442, 334, 346, 442, 442, 442, 442, 442, 442, 442, 442, 372, 389, 442, 442, 442, 442, 442, 442, 442, 442, 404, 416], 224)) (by decide) (by decide) rfl (by decide) ?_
  refine g_aload_n (by decide +kernel : decode prog_2_method_3_code 313 = .ok (.aload_n 0, 1)) rfl ?_
  refine g_aload_n (by decide +kernel : decode prog_2_method_3_code 314 = .ok (.aload_n 0, 1)) rfl ?_
  refine g_getI (by decide +kernel : decode prog_2_method_3_code 315 = .ok (.getfield 24, 3)) fl_Ac_24.get rfl rfl ?_
  refine g_top (w := nI 2) (hk) ?_
  refine g_iconst (v := nI 0) (by decide +kernel : decode prog_2_method_3_code 318 = .ok (.iconst 0, 1)) (by decide) ?_
  refine g_iload_n (by decide +kernel : decode prog_2_method_3_code 319 = .ok (.iload_n 3, 1)) rfl ?_
  refine g_iload (by decide +kernel : decode prog_2_method_3_code 320 = .ok (.iload 7, 2)) rfl ?_
  refine g_callVI [.int (nI 2), .int (nI 0), .int x, .int (nI (d + 1))] (by decide +kernel : decode prog_2_method_3_code 322 = .ok (.invokevirtual 37, 3)) lk_Ac_37 (r_2_2_0 σ (upd B r (nI 11)) (r + 1) (x) hk hn ha (d := (d + 1)) (by omega) (by omega)) rfl rfl rfl rfl (Nat.le_of_ble_eq_true rfl) (Nat.le_of_ble_eq_true rfl) (fun r322 s322 h322 => ?_)
  obtain ⟨rfl, rfl⟩ := h322
  refine g_iconst (v := nI 2) (by decide +kernel : decode prog_2_method_3_code 325 = .ok (.iconst 2, 1)) (by decide) ?_
  refine g_imul (by decide +kernel : decode prog_2_method_3_code 326 = .ok (.imul, 1)) ?_
  refine g_aload_n (by decide +kernel : decode prog_2_method_3_code 327 = .ok (.aload_n 0, 1)) rfl ?_
  refine g_getI (by decide +kernel : decode prog_2_method_3_code 328 = .ok (.getfield 34, 3)) fl_Ac_34.get rfl rfl ?_
  refine g_top (w := nI a) (ha) ?_
  refine g_isub (by decide +kernel : decode prog_2_method_3_code 331 = .ok (.isub, 1)) ?_
  exact g_iret hR (by decide +kernel : decode prog_2_method_3_code 332 = .ok (.ireturn, 1)) rfl ⟨_, rfl, ⟨rfl, rfl⟩⟩
set_option maxRecDepth 20000 in
theorem r_2_2_2e (σ : Store) (B : Row) (r : Nat) (x : Int32) {n a : Nat} (hk : σ 0 2 = nI 2) (hn : σ 0 3 = nI n) (ha : σ 0 4 = nI a) {d : Nat} (hd : d + 1 ≤ 12) (hr : r + 1 ≤ 30) (hn7 : n ≤ 7) (ha9 : a ≤ 9) (hna : n = a) : Ct ΛA mt_Ac_run 1 [.ref 0, .int (nI 2), .int (nI 2), .int x, .int (nI d)] (bS σ B r 0) (PF (pP n a x) (bS σ (wl B r [nI 12]) (r + 1) 1)) := by
  refine Ct.of (by decide) (Nat.le_of_ble_eq_true rfl) (fun X hR => ?_)
  show G (ΛA, mt_Ac_run, 1) X (bS σ B r 0) [some (.ref 0), some (.int (nI 2)), some (.int (nI 2)), some (.int x), some (.int (nI d)), none, none, none] [] 0
  refine g_iload_n (by decide +kernel : decode prog_2_method_3_code 0 = .ok (.iload_n 1, 1)) rfl ?_
  refine g_iconst (v := nI 4) (by decide +kernel : decode prog_2_method_3_code 1 = .ok (.iconst 4, 1)) (by decide) ?_
  refine g_imulN (by decide +kernel : decode prog_2_method_3_code 2 = .ok (.imul, 1)) ?_
  refine g_iload_n (by decide +kernel : decode prog_2_method_3_code 3 = .ok (.iload_n 2, 1)) rfl ?_
  refine g_iadd (by decide +kernel : decode prog_2_method_3_code 4 = .ok (.iadd, 1)) ?_
  refine g_top (w := nI 10) (by decide) ?_
  refine g_istore (L' := [some (.ref 0), some (.int (nI 2)), some (.int (nI 2)), some (.int x), some (.int (nI d)), some (.int (nI 10)), none, none]) (by decide +kernel : decode prog_2_method_3_code 5 = .ok (.istore 5, 2)) (Nat.le_of_ble_eq_true rfl) rfl ?_
  refine g_iload (by decide +kernel : decode prog_2_method_3_code 7 = .ok (.iload 4, 2)) rfl ?_
  refine g_bipush (v := nI 12) (by decide +kernel : decode prog_2_method_3_code 9 = .ok (.bipush 12, 2)) (by decide) ?_
  refine g_icmp_gtN (tgt := 35) (by decide +kernel : decode prog_2_method_3_code 11 = .ok (.if_icmp .gt 24, 3)) (by decide) (by omega) (by decide) (fun h => absurd h (by omega)) (fun _ => ?_)
  refine g_aload_n (by decide +kernel : decode prog_2_method_3_code 14 = .ok (.aload_n 0, 1)) rfl ?_
  refine g_getI (by decide +kernel : decode prog_2_method_3_code 15 = .ok (.getfield 15, 3)) fl_Ac_15.get rfl rfl ?_
  refine g_top (w := nI 0) (rfl) ?_
  refine g_if_neN (tgt := 35) (by decide +kernel : decode prog_2_method_3_code 18 = .ok (.ifCond .ne 17, 3)) (by decide) (by decide) (fun h => False.elim (by revert h; decide)) (fun _ => ?_)
  refine g_iload (by decide +kernel : decode prog_2_method_3_code 21 = .ok (.iload 5, 2)) rfl ?_
  refine g_if_ltN (by decide +kernel : decode prog_2_method_3_code 23 = .ok (.ifCond .lt 12, 3)) (by decide) (by decide) ?_
  refine g_iload (by decide +kernel : decode prog_2_method_3_code 26 = .ok (.iload 5, 2)) rfl ?_
  refine g_gets (j := 3) (by decide +kernel : decode prog_2_method_3_code 28 = .ok (.getstatic 41, 3)) (by decide) sl_Ac_41 ?_
  refine g_rolen (j := 3) (by decide +kernel : decode prog_2_method_3_code 31 = .ok (.arraylength, 1)) (by decide) ?_
  refine g_icmp_ltN (tgt := 37) (by decide +kernel : decode prog_2_method_3_code 32 = .ok (.if_icmp .lt 5, 3)) (by decide) (by decide) (by decide) (fun _ => ?_) (fun h => absurd (by decide) h)
  refine g_gets (j := 3) (by decide +kernel : decode prog_2_method_3_code 37 = .ok (.getstatic 41, 3)) (by decide) sl_Ac_41 ?_
  refine g_iload (by decide +kernel : decode prog_2_method_3_code 40 = .ok (.iload 5, 2)) rfl ?_
  refine g_roload (j := 3) (a := 10) (by decide +kernel : decode prog_2_method_3_code 42 = .ok (.iaload, 1)) (by decide) rfl (by decide) ?_
  refine g_top (w := nI 12) (rfl) ?_
  refine g_istore (L' := [some (.ref 0), some (.int (nI 2)), some (.int (nI 2)), some (.int x), some (.int (nI d)), some (.int (nI 10)), some (.int (nI 12)), none]) (by decide +kernel : decode prog_2_method_3_code 43 = .ok (.istore 6, 2)) (Nat.le_of_ble_eq_true rfl) rfl ?_
  refine g_aload_n (by decide +kernel : decode prog_2_method_3_code 45 = .ok (.aload_n 0, 1)) rfl ?_
  refine g_getI (by decide +kernel : decode prog_2_method_3_code 46 = .ok (.getfield 44, 3)) fl_Ac_44.get rfl rfl ?_
  refine g_top (w := nI r) (rfl) ?_
  refine g_bipush (v := nI 30) (by decide +kernel : decode prog_2_method_3_code 49 = .ok (.bipush 30, 2)) (by decide) ?_
  refine g_icmp_geN (tgt := 72) (by decide +kernel : decode prog_2_method_3_code 51 = .ok (.if_icmp .ge 21, 3)) (by decide) (by omega) (by decide) (fun h => absurd h (by omega)) (fun _ => ?_)
  refine g_aload_n (by decide +kernel : decode prog_2_method_3_code 54 = .ok (.aload_n 0, 1)) rfl ?_
  refine g_getR (by decide +kernel : decode prog_2_method_3_code 55 = .ok (.getfield 9, 3)) fl_Ac_9 rfl rfl ?_
  refine g_aload_n (by decide +kernel : decode prog_2_method_3_code 58 = .ok (.aload_n 0, 1)) rfl ?_
  refine g_dup (by decide +kernel : decode prog_2_method_3_code 59 = .ok (.dup, 1)) rfl ?_
  refine g_getI (by decide +kernel : decode prog_2_method_3_code 60 = .ok (.getfield 44, 3)) fl_Ac_44.get rfl rfl ?_
  refine g_top (w := nI r) (rfl) ?_
  refine g_dup_x1 (by decide +kernel : decode prog_2_method_3_code 63 = .ok (.dup_x1, 1)) rfl rfl ?_
  refine g_iconst (v := nI 1) (by decide +kernel : decode prog_2_method_3_code 64 = .ok (.iconst 1, 1)) (by decide) ?_
  refine g_iaddN (by decide +kernel : decode prog_2_method_3_code 65 = .ok (.iadd, 1)) ?_
  refine g_putI (by decide +kernel : decode prog_2_method_3_code 66 = .ok (.putfield 44, 3)) fl_Ac_44 rfl rfl ?_
  refine g_sto (bS_r _ _ _ _ _) ?_
  refine g_iload (by decide +kernel : decode prog_2_method_3_code 69 = .ok (.iload 6, 2)) rfl ?_
  refine g_iastore (a := r) (by decide +kernel : decode prog_2_method_3_code 71 = .ok (.iastore, 1)) rfl rfl (by omega) (by decide) ?_
  refine g_sto (bS_1 _ _ _ _ _ _) ?_
  refine g_iload (by decide +kernel : decode prog_2_method_3_code 72 = .ok (.iload 4, 2)) rfl ?_
  refine g_iconst (v := nI 1) (by decide +kernel : decode prog_2_method_3_code 74 = .ok (.iconst 1, 1)) (by decide) ?_
  refine g_iaddN (by decide +kernel : decode prog_2_method_3_code 75 = .ok (.iadd, 1)) ?_
  refine g_istore (L' := [some (.ref 0), some (.int (nI 2)), some (.int (nI 2)), some (.int x), some (.int (nI d)), some (.int (nI 10)), some (.int (nI 12)), some (.int (nI (d + 1)))]) (by decide +kernel : decode prog_2_method_3_code 76 = .ok (.istore 7, 2)) (Nat.le_of_ble_eq_true rfl) rfl ?_
  refine g_iload (by decide +kernel : decode prog_2_method_3_code 78 = .ok (.iload 6, 2)) rfl ?_
  refine g_tableIn (x := nI 12) (off := 253) (tgt := 333) (by decide +kernel : decode prog_2_method_3_code 80 = .ok (.tableswitch 442 10 61 #[224, 233, 253, 268, 442, 442, 442, 442, 442, 442, 284, 442, 442, 442, 442, 442, 442, 442, 442, 442, 296, 308, 442, 442, 442, 442, 442, 442, 442, 442, 334, 346, 442, 442, 442, 442, 442, 442, 442, 442, 372, 389, 442, 442, 442, 442, 442, 442, 442, 442, 404, 416], 224)) (by decide) (by decide) rfl (by decide) ?_
  refine g_aload_n (by decide +kernel : decode prog_2_method_3_code 333 = .ok (.aload_n 0, 1)) rfl ?_
  refine g_iload_n (by decide +kernel : decode prog_2_method_3_code 334 = .ok (.iload_n 3, 1)) rfl ?_
  refine g_aload_n (by decide +kernel : decode prog_2_method_3_code 335 = .ok (.aload_n 0, 1)) rfl ?_
  refine g_getI (by decide +kernel : decode prog_2_method_3_code 336 = .ok (.getfield 34, 3)) fl_Ac_34.get rfl rfl ?_
  refine g_top (w := nI a) (ha) ?_
  refine g_aload_n (by decide +kernel : decode prog_2_method_3_code 339 = .ok (.aload_n 0, 1)) rfl ?_
  refine g_getI (by decide +kernel : decode prog_2_method_3_code 340 = .ok (.getfield 28, 3)) fl_Ac_28.get rfl rfl ?_
  refine g_top (w := nI n) (hn) ?_
  refine g_isub (by decide +kernel : decode prog_2_method_3_code 343 = .ok (.isub, 1)) ?_
  refine g_callVI [.int x, .int ((nI a) - (nI n))] (by decide +kernel : decode prog_2_method_3_code 344 = .ok (.invokevirtual 47, 3)) lk_Ac_47 (r_quote σ (upd B r (nI 12)) (r + 1) (x) hn7 ha9 hna) rfl rfl rfl rfl (Nat.le_of_ble_eq_true rfl) (Nat.le_of_ble_eq_true rfl) (fun r344 s344 h344 => ?_)
  obtain ⟨rfl, rfl⟩ := h344
  exact g_iret hR (by decide +kernel : decode prog_2_method_3_code 347 = .ok (.ireturn, 1)) rfl ⟨_, rfl, ⟨rfl, rfl⟩⟩
set_option maxRecDepth 20000 in
theorem r_2_2_2d (σ : Store) (B : Row) (r : Nat) (x : Int32) {n a : Nat} (hk : σ 0 2 = nI 2) (hn : σ 0 3 = nI n) (ha : σ 0 4 = nI a) {d : Nat} (hd : d + 1 ≤ 12) (hr : r + 1 ≤ 30) (hn7 : n ≤ 7) (ha9 : a ≤ 9) (hna : n ≠ a) : Ct ΛA mt_Ac_run 1 [.ref 0, .int (nI 2), .int (nI 2), .int x, .int (nI d)] (bS σ B r 0) (PF (pP n a x) (bS σ (wl B r [nI 12]) (r + 1) 0)) := by
  refine Ct.of (by decide) (Nat.le_of_ble_eq_true rfl) (fun X hR => ?_)
  show G (ΛA, mt_Ac_run, 1) X (bS σ B r 0) [some (.ref 0), some (.int (nI 2)), some (.int (nI 2)), some (.int x), some (.int (nI d)), none, none, none] [] 0
  refine g_iload_n (by decide +kernel : decode prog_2_method_3_code 0 = .ok (.iload_n 1, 1)) rfl ?_
  refine g_iconst (v := nI 4) (by decide +kernel : decode prog_2_method_3_code 1 = .ok (.iconst 4, 1)) (by decide) ?_
  refine g_imulN (by decide +kernel : decode prog_2_method_3_code 2 = .ok (.imul, 1)) ?_
  refine g_iload_n (by decide +kernel : decode prog_2_method_3_code 3 = .ok (.iload_n 2, 1)) rfl ?_
  refine g_iadd (by decide +kernel : decode prog_2_method_3_code 4 = .ok (.iadd, 1)) ?_
  refine g_top (w := nI 10) (by decide) ?_
  refine g_istore (L' := [some (.ref 0), some (.int (nI 2)), some (.int (nI 2)), some (.int x), some (.int (nI d)), some (.int (nI 10)), none, none]) (by decide +kernel : decode prog_2_method_3_code 5 = .ok (.istore 5, 2)) (Nat.le_of_ble_eq_true rfl) rfl ?_
  refine g_iload (by decide +kernel : decode prog_2_method_3_code 7 = .ok (.iload 4, 2)) rfl ?_
  refine g_bipush (v := nI 12) (by decide +kernel : decode prog_2_method_3_code 9 = .ok (.bipush 12, 2)) (by decide) ?_
  refine g_icmp_gtN (tgt := 35) (by decide +kernel : decode prog_2_method_3_code 11 = .ok (.if_icmp .gt 24, 3)) (by decide) (by omega) (by decide) (fun h => absurd h (by omega)) (fun _ => ?_)
  refine g_aload_n (by decide +kernel : decode prog_2_method_3_code 14 = .ok (.aload_n 0, 1)) rfl ?_
  refine g_getI (by decide +kernel : decode prog_2_method_3_code 15 = .ok (.getfield 15, 3)) fl_Ac_15.get rfl rfl ?_
  refine g_top (w := nI 0) (rfl) ?_
  refine g_if_neN (tgt := 35) (by decide +kernel : decode prog_2_method_3_code 18 = .ok (.ifCond .ne 17, 3)) (by decide) (by decide) (fun h => False.elim (by revert h; decide)) (fun _ => ?_)
  refine g_iload (by decide +kernel : decode prog_2_method_3_code 21 = .ok (.iload 5, 2)) rfl ?_
  refine g_if_ltN (by decide +kernel : decode prog_2_method_3_code 23 = .ok (.ifCond .lt 12, 3)) (by decide) (by decide) ?_
  refine g_iload (by decide +kernel : decode prog_2_method_3_code 26 = .ok (.iload 5, 2)) rfl ?_
  refine g_gets (j := 3) (by decide +kernel : decode prog_2_method_3_code 28 = .ok (.getstatic 41, 3)) (by decide) sl_Ac_41 ?_
  refine g_rolen (j := 3) (by decide +kernel : decode prog_2_method_3_code 31 = .ok (.arraylength, 1)) (by decide) ?_
  refine g_icmp_ltN (tgt := 37) (by decide +kernel : decode prog_2_method_3_code 32 = .ok (.if_icmp .lt 5, 3)) (by decide) (by decide) (by decide) (fun _ => ?_) (fun h => absurd (by decide) h)
  refine g_gets (j := 3) (by decide +kernel : decode prog_2_method_3_code 37 = .ok (.getstatic 41, 3)) (by decide) sl_Ac_41 ?_
  refine g_iload (by decide +kernel : decode prog_2_method_3_code 40 = .ok (.iload 5, 2)) rfl ?_
  refine g_roload (j := 3) (a := 10) (by decide +kernel : decode prog_2_method_3_code 42 = .ok (.iaload, 1)) (by decide) rfl (by decide) ?_
  refine g_top (w := nI 12) (rfl) ?_
  refine g_istore (L' := [some (.ref 0), some (.int (nI 2)), some (.int (nI 2)), some (.int x), some (.int (nI d)), some (.int (nI 10)), some (.int (nI 12)), none]) (by decide +kernel : decode prog_2_method_3_code 43 = .ok (.istore 6, 2)) (Nat.le_of_ble_eq_true rfl) rfl ?_
  refine g_aload_n (by decide +kernel : decode prog_2_method_3_code 45 = .ok (.aload_n 0, 1)) rfl ?_
  refine g_getI (by decide +kernel : decode prog_2_method_3_code 46 = .ok (.getfield 44, 3)) fl_Ac_44.get rfl rfl ?_
  refine g_top (w := nI r) (rfl) ?_
  refine g_bipush (v := nI 30) (by decide +kernel : decode prog_2_method_3_code 49 = .ok (.bipush 30, 2)) (by decide) ?_
  refine g_icmp_geN (tgt := 72) (by decide +kernel : decode prog_2_method_3_code 51 = .ok (.if_icmp .ge 21, 3)) (by decide) (by omega) (by decide) (fun h => absurd h (by omega)) (fun _ => ?_)
  refine g_aload_n (by decide +kernel : decode prog_2_method_3_code 54 = .ok (.aload_n 0, 1)) rfl ?_
  refine g_getR (by decide +kernel : decode prog_2_method_3_code 55 = .ok (.getfield 9, 3)) fl_Ac_9 rfl rfl ?_
  refine g_aload_n (by decide +kernel : decode prog_2_method_3_code 58 = .ok (.aload_n 0, 1)) rfl ?_
  refine g_dup (by decide +kernel : decode prog_2_method_3_code 59 = .ok (.dup, 1)) rfl ?_
  refine g_getI (by decide +kernel : decode prog_2_method_3_code 60 = .ok (.getfield 44, 3)) fl_Ac_44.get rfl rfl ?_
  refine g_top (w := nI r) (rfl) ?_
  refine g_dup_x1 (by decide +kernel : decode prog_2_method_3_code 63 = .ok (.dup_x1, 1)) rfl rfl ?_
  refine g_iconst (v := nI 1) (by decide +kernel : decode prog_2_method_3_code 64 = .ok (.iconst 1, 1)) (by decide) ?_
  refine g_iaddN (by decide +kernel : decode prog_2_method_3_code 65 = .ok (.iadd, 1)) ?_
  refine g_putI (by decide +kernel : decode prog_2_method_3_code 66 = .ok (.putfield 44, 3)) fl_Ac_44 rfl rfl ?_
  refine g_sto (bS_r _ _ _ _ _) ?_
  refine g_iload (by decide +kernel : decode prog_2_method_3_code 69 = .ok (.iload 6, 2)) rfl ?_
  refine g_iastore (a := r) (by decide +kernel : decode prog_2_method_3_code 71 = .ok (.iastore, 1)) rfl rfl (by omega) (by decide) ?_
  refine g_sto (bS_1 _ _ _ _ _ _) ?_
  refine g_iload (by decide +kernel : decode prog_2_method_3_code 72 = .ok (.iload 4, 2)) rfl ?_
  refine g_iconst (v := nI 1) (by decide +kernel : decode prog_2_method_3_code 74 = .ok (.iconst 1, 1)) (by decide) ?_
  refine g_iaddN (by decide +kernel : decode prog_2_method_3_code 75 = .ok (.iadd, 1)) ?_
  refine g_istore (L' := [some (.ref 0), some (.int (nI 2)), some (.int (nI 2)), some (.int x), some (.int (nI d)), some (.int (nI 10)), some (.int (nI 12)), some (.int (nI (d + 1)))]) (by decide +kernel : decode prog_2_method_3_code 76 = .ok (.istore 7, 2)) (Nat.le_of_ble_eq_true rfl) rfl ?_
  refine g_iload (by decide +kernel : decode prog_2_method_3_code 78 = .ok (.iload 6, 2)) rfl ?_
  refine g_tableIn (x := nI 12) (off := 253) (tgt := 333) (by decide +kernel : decode prog_2_method_3_code 80 = .ok (.tableswitch 442 10 61 #[224, 233, 253, 268, 442, 442, 442, 442, 442, 442, 284, 442, 442, 442, 442, 442, 442, 442, 442, 442, 296, 308, 442, 442, 442, 442, 442, 442, 442, 442, 334, 346, 442, 442, 442, 442, 442, 442, 442, 442, 372, 389, 442, 442, 442, 442, 442, 442, 442, 442, 404, 416], 224)) (by decide) (by decide) rfl (by decide) ?_
  refine g_aload_n (by decide +kernel : decode prog_2_method_3_code 333 = .ok (.aload_n 0, 1)) rfl ?_
  refine g_iload_n (by decide +kernel : decode prog_2_method_3_code 334 = .ok (.iload_n 3, 1)) rfl ?_
  refine g_aload_n (by decide +kernel : decode prog_2_method_3_code 335 = .ok (.aload_n 0, 1)) rfl ?_
  refine g_getI (by decide +kernel : decode prog_2_method_3_code 336 = .ok (.getfield 34, 3)) fl_Ac_34.get rfl rfl ?_
  refine g_top (w := nI a) (ha) ?_
  refine g_aload_n (by decide +kernel : decode prog_2_method_3_code 339 = .ok (.aload_n 0, 1)) rfl ?_
  refine g_getI (by decide +kernel : decode prog_2_method_3_code 340 = .ok (.getfield 28, 3)) fl_Ac_28.get rfl rfl ?_
  refine g_top (w := nI n) (hn) ?_
  refine g_isub (by decide +kernel : decode prog_2_method_3_code 343 = .ok (.isub, 1)) ?_
  refine g_callVI [.int x, .int ((nI a) - (nI n))] (by decide +kernel : decode prog_2_method_3_code 344 = .ok (.invokevirtual 47, 3)) lk_Ac_47 (r_quotd σ (upd B r (nI 12)) (r + 1) (x) hn7 ha9 hna) rfl rfl rfl rfl (Nat.le_of_ble_eq_true rfl) (Nat.le_of_ble_eq_true rfl) (fun r344 s344 h344 => ?_)
  obtain ⟨rfl, rfl⟩ := h344
  exact g_iret hR (by decide +kernel : decode prog_2_method_3_code 347 = .ok (.ireturn, 1)) rfl ⟨_, rfl, ⟨rfl, rfl⟩⟩
set_option maxRecDepth 20000 in
theorem r_2_0_3 (σ : Store) (B : Row) (r : Nat) (x : Int32) {n a : Nat} (hk : σ 0 2 = nI 2) (hn : σ 0 3 = nI n) (ha : σ 0 4 = nI a) {d : Nat} (hd : d + 4 ≤ 12) (hr : r + 4 ≤ 30) : Ct ΛA mt_Ac_run 4 [.ref 0, .int (nI 0), .int (nI 3), .int x, .int (nI d)] (bS σ B r 0) (PF ((((x - nI (n * 2)) ^^^ nI 3) * nI 2 - nI a) ^^^ nI 12) (bS σ (wl B r [nI 13, nI 11, nI 30, nI 10]) (r + 4) 0)) := by
  refine Ct.of (by decide) (Nat.le_of_ble_eq_true rfl) (fun X hR => ?_)
  show G (ΛA, mt_Ac_run, 4) X (bS σ B r 0) [some (.ref 0), some (.int (nI 0)), some (.int (nI 3)), some (.int x), some (.int (nI d)), none, none, none] [] 0
  refine g_iload_n (by decide +kernel : decode prog_2_method_3_code 0 = .ok (.iload_n 1, 1)) rfl ?_
  refine g_iconst (v := nI 4) (by decide +kernel : decode prog_2_method_3_code 1 = .ok (.iconst 4, 1)) (by decide) ?_
  refine g_imulN (by decide +kernel : decode prog_2_method_3_code 2 = .ok (.imul, 1)) ?_
  refine g_iload_n (by decide +kernel : decode prog_2_method_3_code 3 = .ok (.iload_n 2, 1)) rfl ?_
  refine g_iadd (by decide +kernel : decode prog_2_method_3_code 4 = .ok (.iadd, 1)) ?_
  refine g_top (w := nI 3) (by decide) ?_
  refine g_istore (L' := [some (.ref 0), some (.int (nI 0)), some (.int (nI 3)), some (.int x), some (.int (nI d)), some (.int (nI 3)), none, none]) (by decide +kernel : decode prog_2_method_3_code 5 = .ok (.istore 5, 2)) (Nat.le_of_ble_eq_true rfl) rfl ?_
  refine g_iload (by decide +kernel : decode prog_2_method_3_code 7 = .ok (.iload 4, 2)) rfl ?_
  refine g_bipush (v := nI 12) (by decide +kernel : decode prog_2_method_3_code 9 = .ok (.bipush 12, 2)) (by decide) ?_
  refine g_icmp_gtN (tgt := 35) (by decide +kernel : decode prog_2_method_3_code 11 = .ok (.if_icmp .gt 24, 3)) (by decide) (by omega) (by decide) (fun h => absurd h (by omega)) (fun _ => ?_)
  refine g_aload_n (by decide +kernel : decode prog_2_method_3_code 14 = .ok (.aload_n 0, 1)) rfl ?_
  refine g_getI (by decide +kernel : decode prog_2_method_3_code 15 = .ok (.getfield 15, 3)) fl_Ac_15.get rfl rfl ?_
  refine g_top (w := nI 0) (rfl) ?_
  refine g_if_neN (tgt := 35) (by decide +kernel : decode prog_2_method_3_code 18 = .ok (.ifCond .ne 17, 3)) (by decide) (by decide) (fun h => False.elim (by revert h; decide)) (fun _ => ?_)
  refine g_iload (by decide +kernel : decode prog_2_method_3_code 21 = .ok (.iload 5, 2)) rfl ?_
  refine g_if_ltN (by decide +kernel : decode prog_2_method_3_code 23 = .ok (.ifCond .lt 12, 3)) (by decide) (by decide) ?_
  refine g_iload (by decide +kernel : decode prog_2_method_3_code 26 = .ok (.iload 5, 2)) rfl ?_
  refine g_gets (j := 3) (by decide +kernel : decode prog_2_method_3_code 28 = .ok (.getstatic 41, 3)) (by decide) sl_Ac_41 ?_
  refine g_rolen (j := 3) (by decide +kernel : decode prog_2_method_3_code 31 = .ok (.arraylength, 1)) (by decide) ?_
  refine g_icmp_ltN (tgt := 37) (by decide +kernel : decode prog_2_method_3_code 32 = .ok (.if_icmp .lt 5, 3)) (by decide) (by decide) (by decide) (fun _ => ?_) (fun h => absurd (by decide) h)
  refine g_gets (j := 3) (by decide +kernel : decode prog_2_method_3_code 37 = .ok (.getstatic 41, 3)) (by decide) sl_Ac_41 ?_
  refine g_iload (by decide +kernel : decode prog_2_method_3_code 40 = .ok (.iload 5, 2)) rfl ?_
  refine g_roload (j := 3) (a := 3) (by decide +kernel : decode prog_2_method_3_code 42 = .ok (.iaload, 1)) (by decide) rfl (by decide) ?_
  refine g_top (w := nI 13) (rfl) ?_
  refine g_istore (L' := [some (.ref 0), some (.int (nI 0)), some (.int (nI 3)), some (.int x), some (.int (nI d)), some (.int (nI 3)), some (.int (nI 13)), none]) (by decide +kernel : decode prog_2_method_3_code 43 = .ok (.istore 6, 2)) (Nat.le_of_ble_eq_true rfl) rfl ?_
  refine g_aload_n (by decide +kernel : decode prog_2_method_3_code 45 = .ok (.aload_n 0, 1)) rfl ?_
  refine g_getI (by decide +kernel : decode prog_2_method_3_code 46 = .ok (.getfield 44, 3)) fl_Ac_44.get rfl rfl ?_
  refine g_top (w := nI r) (rfl) ?_
  refine g_bipush (v := nI 30) (by decide +kernel : decode prog_2_method_3_code 49 = .ok (.bipush 30, 2)) (by decide) ?_
  refine g_icmp_geN (tgt := 72) (by decide +kernel : decode prog_2_method_3_code 51 = .ok (.if_icmp .ge 21, 3)) (by decide) (by omega) (by decide) (fun h => absurd h (by omega)) (fun _ => ?_)
  refine g_aload_n (by decide +kernel : decode prog_2_method_3_code 54 = .ok (.aload_n 0, 1)) rfl ?_
  refine g_getR (by decide +kernel : decode prog_2_method_3_code 55 = .ok (.getfield 9, 3)) fl_Ac_9 rfl rfl ?_
  refine g_aload_n (by decide +kernel : decode prog_2_method_3_code 58 = .ok (.aload_n 0, 1)) rfl ?_
  refine g_dup (by decide +kernel : decode prog_2_method_3_code 59 = .ok (.dup, 1)) rfl ?_
  refine g_getI (by decide +kernel : decode prog_2_method_3_code 60 = .ok (.getfield 44, 3)) fl_Ac_44.get rfl rfl ?_
  refine g_top (w := nI r) (rfl) ?_
  refine g_dup_x1 (by decide +kernel : decode prog_2_method_3_code 63 = .ok (.dup_x1, 1)) rfl rfl ?_
  refine g_iconst (v := nI 1) (by decide +kernel : decode prog_2_method_3_code 64 = .ok (.iconst 1, 1)) (by decide) ?_
  refine g_iaddN (by decide +kernel : decode prog_2_method_3_code 65 = .ok (.iadd, 1)) ?_
  refine g_putI (by decide +kernel : decode prog_2_method_3_code 66 = .ok (.putfield 44, 3)) fl_Ac_44 rfl rfl ?_
  refine g_sto (bS_r _ _ _ _ _) ?_
  refine g_iload (by decide +kernel : decode prog_2_method_3_code 69 = .ok (.iload 6, 2)) rfl ?_
  refine g_iastore (a := r) (by decide +kernel : decode prog_2_method_3_code 71 = .ok (.iastore, 1)) rfl rfl (by omega) (by decide) ?_
  refine g_sto (bS_1 _ _ _ _ _ _) ?_
  refine g_iload (by decide +kernel : decode prog_2_method_3_code 72 = .ok (.iload 4, 2)) rfl ?_
  refine g_iconst (v := nI 1) (by decide +kernel : decode prog_2_method_3_code 74 = .ok (.iconst 1, 1)) (by decide) ?_
  refine g_iaddN (by decide +kernel : decode prog_2_method_3_code 75 = .ok (.iadd, 1)) ?_
  refine g_istore (L' := [some (.ref 0), some (.int (nI 0)), some (.int (nI 3)), some (.int x), some (.int (nI d)), some (.int (nI 3)), some (.int (nI 13)), some (.int (nI (d + 1)))]) (by decide +kernel : decode prog_2_method_3_code 76 = .ok (.istore 7, 2)) (Nat.le_of_ble_eq_true rfl) rfl ?_
  refine g_iload (by decide +kernel : decode prog_2_method_3_code 78 = .ok (.iload 6, 2)) rfl ?_
  refine g_tableIn (x := nI 13) (off := 268) (tgt := 348) (by decide +kernel : decode prog_2_method_3_code 80 = .ok (.tableswitch 442 10 61 #[224, 233, 253, 268, 442, 442, 442, 442, 442, 442, 284, 442, 442, 442, 442, 442, 442, 442, 442, 442, 296, 308, 442, 442, 442, 442, 442, 442, 442, 442, 334, 346, 442, 442, 442, 442, 442, 442, 442, 442, 372, 389, 442, 442, 442, 442, 442, 442, 442, 442, 404, 416], 224)) (by decide) (by decide) rfl (by decide) ?_
  refine g_aload_n (by decide +kernel : decode prog_2_method_3_code 348 = .ok (.aload_n 0, 1)) rfl ?_
  refine g_aload_n (by decide +kernel : decode prog_2_method_3_code 349 = .ok (.aload_n 0, 1)) rfl ?_
  refine g_getI (by decide +kernel : decode prog_2_method_3_code 350 = .ok (.getfield 24, 3)) fl_Ac_24.get rfl rfl ?_
  refine g_top (w := nI 2) (hk) ?_
  refine g_iconst (v := nI 1) (by decide +kernel : decode prog_2_method_3_code 353 = .ok (.iconst 1, 1)) (by decide) ?_
  refine g_iload_n (by decide +kernel : decode prog_2_method_3_code 354 = .ok (.iload_n 3, 1)) rfl ?_
  refine g_iload (by decide +kernel : decode prog_2_method_3_code 355 = .ok (.iload 7, 2)) rfl ?_
  refine g_callVI [.int (nI 2), .int (nI 1), .int x, .int (nI (d + 1))] (by decide +kernel : decode prog_2_method_3_code 357 = .ok (.invokevirtual 37, 3)) lk_Ac_37 (r_2_2_1 σ (upd B r (nI 13)) (r + 1) (x) hk hn ha (d := (d + 1)) (by omega) (by omega)) rfl rfl rfl rfl (Nat.le_of_ble_eq_true rfl) (Nat.le_of_ble_eq_true rfl) (fun r357 s357 h357 => ?_)
  obtain ⟨rfl, rfl⟩ := h357
  refine g_bipush (v := nI 12) (by decide +kernel : decode prog_2_method_3_code 360 = .ok (.bipush 12, 2)) (by decide) ?_
  refine g_ixor (by decide +kernel : decode prog_2_method_3_code 362 = .ok (.ixor, 1)) ?_
  exact g_iret hR (by decide +kernel : decode prog_2_method_3_code 363 = .ok (.ireturn, 1)) rfl ⟨_, rfl, ⟨rfl, rfl⟩⟩
set_option maxRecDepth 20000 in
theorem r_2_2_3e (σ : Store) (B : Row) (r : Nat) (x : Int32) {n a : Nat} (hk : σ 0 2 = nI 2) (hn : σ 0 3 = nI n) (ha : σ 0 4 = nI a) {d : Nat} (hd : d + 5 ≤ 12) (hr : r + 6 ≤ 30) (hn7 : n ≤ 7) (ha9 : a ≤ 9) (hna : n = a) : Ct ΛA mt_Ac_run 5 [.ref 0, .int (nI 2), .int (nI 3), .int x, .int (nI d)] (bS σ B r 0) (PF (((((x - nI (n * 2)) ^^^ nI 3) * nI 2 - nI a) ^^^ nI 12) - (pP n a (nI n))) (bS σ (wl B r [nI 31, nI 13, nI 11, nI 30, nI 10, nI 12]) (r + 6) 1)) := by
  refine Ct.of (by decide) (Nat.le_of_ble_eq_true rfl) (fun X hR => ?_)
  show G (ΛA, mt_Ac_run, 5) X (bS σ B r 0) [some (.ref 0), some (.int (nI 2)), some (.int (nI 3)), some (.int x), some (.int (nI d)), none, none, none] [] 0
  refine g_iload_n (by decide +kernel : decode prog_2_method_3_code 0 = .ok (.iload_n 1, 1)) rfl ?_
  refine g_iconst (v := nI 4) (by decide +kernel : decode prog_2_method_3_code 1 = .ok (.iconst 4, 1)) (by decide) ?_
  refine g_imulN (by decide +kernel : decode prog_2_method_3_code 2 = .ok (.imul, 1)) ?_
  refine g_iload_n (by decide +kernel : decode prog_2_method_3_code 3 = .ok (.iload_n 2, 1)) rfl ?_
  refine g_iadd (by decide +kernel : decode prog_2_method_3_code 4 = .ok (.iadd, 1)) ?_
  refine g_top (w := nI 11) (by decide) ?_
  refine g_istore (L' := [some (.ref 0), some (.int (nI 2)), some (.int (nI 3)), some (.int x), some (.int (nI d)), some (.int (nI 11)), none, none]) (by decide +kernel : decode prog_2_method_3_code 5 = .ok (.istore 5, 2)) (Nat.le_of_ble_eq_true rfl) rfl ?_
  refine g_iload (by decide +kernel : decode prog_2_method_3_code 7 = .ok (.iload 4, 2)) rfl ?_
  refine g_bipush (v := nI 12) (by decide +kernel : decode prog_2_method_3_code 9 = .ok (.bipush 12, 2)) (by decide) ?_
  refine g_icmp_gtN (tgt := 35) (by decide +kernel : decode prog_2_method_3_code 11 = .ok (.if_icmp .gt 24, 3)) (by decide) (by omega) (by decide) (fun h => absurd h (by omega)) (fun _ => ?_)
  refine g_aload_n (by decide +kernel : decode prog_2_method_3_code 14 = .ok (.aload_n 0, 1)) rfl ?_
  refine g_getI (by decide +kernel : decode prog_2_method_3_code 15 = .ok (.getfield 15, 3)) fl_Ac_15.get rfl rfl ?_
  refine g_top (w := nI 0) (rfl) ?_
  refine g_if_neN (tgt := 35) (by decide +kernel : decode prog_2_method_3_code 18 = .ok (.ifCond .ne 17, 3)) (by decide) (by decide) (fun h => False.elim (by revert h; decide)) (fun _ => ?_)
  refine g_iload (by decide +kernel : decode prog_2_method_3_code 21 = .ok (.iload 5, 2)) rfl ?_
  refine g_if_ltN (by decide +kernel : decode prog_2_method_3_code 23 = .ok (.ifCond .lt 12, 3)) (by decide) (by decide) ?_
  refine g_iload (by decide +kernel : decode prog_2_method_3_code 26 = .ok (.iload 5, 2)) rfl ?_
  refine g_gets (j := 3) (by decide +kernel : decode prog_2_method_3_code 28 = .ok (.getstatic 41, 3)) (by decide) sl_Ac_41 ?_
  refine g_rolen (j := 3) (by decide +kernel : decode prog_2_method_3_code 31 = .ok (.arraylength, 1)) (by decide) ?_
  refine g_icmp_ltN (tgt := 37) (by decide +kernel : decode prog_2_method_3_code 32 = .ok (.if_icmp .lt 5, 3)) (by decide) (by decide) (by decide) (fun _ => ?_) (fun h => absurd (by decide) h)
  refine g_gets (j := 3) (by decide +kernel : decode prog_2_method_3_code 37 = .ok (.getstatic 41, 3)) (by decide) sl_Ac_41 ?_
  refine g_iload (by decide +kernel : decode prog_2_method_3_code 40 = .ok (.iload 5, 2)) rfl ?_
  refine g_roload (j := 3) (a := 11) (by decide +kernel : decode prog_2_method_3_code 42 = .ok (.iaload, 1)) (by decide) rfl (by decide) ?_
  refine g_top (w := nI 31) (rfl) ?_
  refine g_istore (L' := [some (.ref 0), some (.int (nI 2)), some (.int (nI 3)), some (.int x), some (.int (nI d)), some (.int (nI 11)), some (.int (nI 31)), none]) (by decide +kernel : decode prog_2_method_3_code 43 = .ok (.istore 6, 2)) (Nat.le_of_ble_eq_true rfl) rfl ?_
  refine g_aload_n (by decide +kernel : decode prog_2_method_3_code 45 = .ok (.aload_n 0, 1)) rfl ?_
  refine g_getI (by decide +kernel : decode prog_2_method_3_code 46 = .ok (.getfield 44, 3)) fl_Ac_44.get rfl rfl ?_
  refine g_top (w := nI r) (rfl) ?_
  refine g_bipush (v := nI 30) (by decide +kernel : decode prog_2_method_3_code 49 = .ok (.bipush 30, 2)) (by decide) ?_
  refine g_icmp_geN (tgt := 72) (by decide +kernel : decode prog_2_method_3_code 51 = .ok (.if_icmp .ge 21, 3)) (by decide) (by omega) (by decide) (fun h => absurd h (by omega)) (fun _ => ?_)
  refine g_aload_n (by decide +kernel : decode prog_2_method_3_code 54 = .ok (.aload_n 0, 1)) rfl ?_
  refine g_getR (by decide +kernel : decode prog_2_method_3_code 55 = .ok (.getfield 9, 3)) fl_Ac_9 rfl rfl ?_
  refine g_aload_n (by decide +kernel : decode prog_2_method_3_code 58 = .ok (.aload_n 0, 1)) rfl ?_
  refine g_dup (by decide +kernel : decode prog_2_method_3_code 59 = .ok (.dup, 1)) rfl ?_
  refine g_getI (by decide +kernel : decode prog_2_method_3_code 60 = .ok (.getfield 44, 3)) fl_Ac_44.get rfl rfl ?_
  refine g_top (w := nI r) (rfl) ?_
  refine g_dup_x1 (by decide +kernel : decode prog_2_method_3_code 63 = .ok (.dup_x1, 1)) rfl rfl ?_
  refine g_iconst (v := nI 1) (by decide +kernel : decode prog_2_method_3_code 64 = .ok (.iconst 1, 1)) (by decide) ?_
  refine g_iaddN (by decide +kernel : decode prog_2_method_3_code 65 = .ok (.iadd, 1)) ?_
  refine g_putI (by decide +kernel : decode prog_2_method_3_code 66 = .ok (.putfield 44, 3)) fl_Ac_44 rfl rfl ?_
  refine g_sto (bS_r _ _ _ _ _) ?_
  refine g_iload (by decide +kernel : decode prog_2_method_3_code 69 = .ok (.iload 6, 2)) rfl ?_
  refine g_iastore (a := r) (by decide +kernel : decode prog_2_method_3_code 71 = .ok (.iastore, 1)) rfl rfl (by omega) (by decide) ?_
  refine g_sto (bS_1 _ _ _ _ _ _) ?_
  refine g_iload (by decide +kernel : decode prog_2_method_3_code 72 = .ok (.iload 4, 2)) rfl ?_
  refine g_iconst (v := nI 1) (by decide +kernel : decode prog_2_method_3_code 74 = .ok (.iconst 1, 1)) (by decide) ?_
  refine g_iaddN (by decide +kernel : decode prog_2_method_3_code 75 = .ok (.iadd, 1)) ?_
  refine g_istore (L' := [some (.ref 0), some (.int (nI 2)), some (.int (nI 3)), some (.int x), some (.int (nI d)), some (.int (nI 11)), some (.int (nI 31)), some (.int (nI (d + 1)))]) (by decide +kernel : decode prog_2_method_3_code 76 = .ok (.istore 7, 2)) (Nat.le_of_ble_eq_true rfl) rfl ?_
  refine g_iload (by decide +kernel : decode prog_2_method_3_code 78 = .ok (.iload 6, 2)) rfl ?_
  refine g_tableIn (x := nI 31) (off := 308) (tgt := 388) (by decide +kernel : decode prog_2_method_3_code 80 = .ok (.tableswitch 442 10 61 #[224, 233, 253, 268, 442, 442, 442, 442, 442, 442, 284, 442, 442, 442, 442, 442, 442, 442, 442, 442, 296, 308, 442, 442, 442, 442, 442, 442, 442, 442, 334, 346, 442, 442, 442, 442, 442, 442, 442, 442, 372, 389, 442, 442, 442, 442, 442, 442, 442, 442, 404, 416], 224)) (by decide) (by decide) rfl (by decide) ?_
  refine g_aload_n (by decide +kernel : decode prog_2_method_3_code 388 = .ok (.aload_n 0, 1)) rfl ?_
  refine g_iconst (v := nI 0) (by decide +kernel : decode prog_2_method_3_code 389 = .ok (.iconst 0, 1)) (by decide) ?_
  refine g_iconst (v := nI 3) (by decide +kernel : decode prog_2_method_3_code 390 = .ok (.iconst 3, 1)) (by decide) ?_
  refine g_iload_n (by decide +kernel : decode prog_2_method_3_code 391 = .ok (.iload_n 3, 1)) rfl ?_
  refine g_iload (by decide +kernel : decode prog_2_method_3_code 392 = .ok (.iload 7, 2)) rfl ?_
  refine g_callVI [.int (nI 0), .int (nI 3), .int x, .int (nI (d + 1))] (by decide +kernel : decode prog_2_method_3_code 394 = .ok (.invokevirtual 37, 3)) lk_Ac_37 (r_2_0_3 σ (upd B r (nI 31)) (r + 1) (x) hk hn ha (d := (d + 1)) (by omega) (by omega)) rfl rfl rfl rfl (Nat.le_of_ble_eq_true rfl) (Nat.le_of_ble_eq_true rfl) (fun r394 s394 h394 => ?_)
  obtain ⟨rfl, rfl⟩ := h394
  refine g_aload_n (by decide +kernel : decode prog_2_method_3_code 397 = .ok (.aload_n 0, 1)) rfl ?_
  refine g_aload_n (by decide +kernel : decode prog_2_method_3_code 398 = .ok (.aload_n 0, 1)) rfl ?_
  refine g_getI (by decide +kernel : decode prog_2_method_3_code 399 = .ok (.getfield 24, 3)) fl_Ac_24.get rfl rfl ?_
  refine g_top (w := nI 2) (hk) ?_
  refine g_iconst (v := nI 2) (by decide +kernel : decode prog_2_method_3_code 402 = .ok (.iconst 2, 1)) (by decide) ?_
  refine g_aload_n (by decide +kernel : decode prog_2_method_3_code 403 = .ok (.aload_n 0, 1)) rfl ?_
  refine g_getI (by decide +kernel : decode prog_2_method_3_code 404 = .ok (.getfield 28, 3)) fl_Ac_28.get rfl rfl ?_
  refine g_top (w := nI n) (hn) ?_
  refine g_iload (by decide +kernel : decode prog_2_method_3_code 407 = .ok (.iload 7, 2)) rfl ?_
  refine g_callVI [.int (nI 2), .int (nI 2), .int (nI n), .int (nI (d + 1))] (by decide +kernel : decode prog_2_method_3_code 409 = .ok (.invokevirtual 37, 3)) lk_Ac_37 (r_2_2_2e σ (wl (upd B r (nI 31)) (r + 1) [nI 13, nI 11, nI 30, nI 10]) (r + 1 + 4) (nI n) hk hn ha (d := (d + 1)) (by omega) (by omega) hn7 ha9 hna) rfl rfl rfl rfl (Nat.le_of_ble_eq_true rfl) (Nat.le_of_ble_eq_true rfl) (fun r409 s409 h409 => ?_)
  obtain ⟨rfl, rfl⟩ := h409
  refine g_isub (by decide +kernel : decode prog_2_method_3_code 412 = .ok (.isub, 1)) ?_
  exact g_iret hR (by decide +kernel : decode prog_2_method_3_code 413 = .ok (.ireturn, 1)) rfl ⟨_, rfl, ⟨rfl, rfl⟩⟩
set_option maxRecDepth 20000 in
theorem r_2_2_3d (σ : Store) (B : Row) (r : Nat) (x : Int32) {n a : Nat} (hk : σ 0 2 = nI 2) (hn : σ 0 3 = nI n) (ha : σ 0 4 = nI a) {d : Nat} (hd : d + 5 ≤ 12) (hr : r + 6 ≤ 30) (hn7 : n ≤ 7) (ha9 : a ≤ 9) (hna : n ≠ a) : Ct ΛA mt_Ac_run 5 [.ref 0, .int (nI 2), .int (nI 3), .int x, .int (nI d)] (bS σ B r 0) (PF (((((x - nI (n * 2)) ^^^ nI 3) * nI 2 - nI a) ^^^ nI 12) - (pP n a (nI n))) (bS σ (wl B r [nI 31, nI 13, nI 11, nI 30, nI 10, nI 12]) (r + 6) 0)) := by
  refine Ct.of (by decide) (Nat.le_of_ble_eq_true rfl) (fun X hR => ?_)
  show G (ΛA, mt_Ac_run, 5) X (bS σ B r 0) [some (.ref 0), some (.int (nI 2)), some (.int (nI 3)), some (.int x), some (.int (nI d)), none, none, none] [] 0
  refine g_iload_n (by decide +kernel : decode prog_2_method_3_code 0 = .ok (.iload_n 1, 1)) rfl ?_
  refine g_iconst (v := nI 4) (by decide +kernel : decode prog_2_method_3_code 1 = .ok (.iconst 4, 1)) (by decide) ?_
  refine g_imulN (by decide +kernel : decode prog_2_method_3_code 2 = .ok (.imul, 1)) ?_
  refine g_iload_n (by decide +kernel : decode prog_2_method_3_code 3 = .ok (.iload_n 2, 1)) rfl ?_
  refine g_iadd (by decide +kernel : decode prog_2_method_3_code 4 = .ok (.iadd, 1)) ?_
  refine g_top (w := nI 11) (by decide) ?_
  refine g_istore (L' := [some (.ref 0), some (.int (nI 2)), some (.int (nI 3)), some (.int x), some (.int (nI d)), some (.int (nI 11)), none, none]) (by decide +kernel : decode prog_2_method_3_code 5 = .ok (.istore 5, 2)) (Nat.le_of_ble_eq_true rfl) rfl ?_
  refine g_iload (by decide +kernel : decode prog_2_method_3_code 7 = .ok (.iload 4, 2)) rfl ?_
  refine g_bipush (v := nI 12) (by decide +kernel : decode prog_2_method_3_code 9 = .ok (.bipush 12, 2)) (by decide) ?_
  refine g_icmp_gtN (tgt := 35) (by decide +kernel : decode prog_2_method_3_code 11 = .ok (.if_icmp .gt 24, 3)) (by decide) (by omega) (by decide) (fun h => absurd h (by omega)) (fun _ => ?_)
  refine g_aload_n (by decide +kernel : decode prog_2_method_3_code 14 = .ok (.aload_n 0, 1)) rfl ?_
  refine g_getI (by decide +kernel : decode prog_2_method_3_code 15 = .ok (.getfield 15, 3)) fl_Ac_15.get rfl rfl ?_
  refine g_top (w := nI 0) (rfl) ?_
  refine g_if_neN (tgt := 35) (by decide +kernel : decode prog_2_method_3_code 18 = .ok (.ifCond .ne 17, 3)) (by decide) (by decide) (fun h => False.elim (by revert h; decide)) (fun _ => ?_)
  refine g_iload (by decide +kernel : decode prog_2_method_3_code 21 = .ok (.iload 5, 2)) rfl ?_
  refine g_if_ltN (by decide +kernel : decode prog_2_method_3_code 23 = .ok (.ifCond .lt 12, 3)) (by decide) (by decide) ?_
  refine g_iload (by decide +kernel : decode prog_2_method_3_code 26 = .ok (.iload 5, 2)) rfl ?_
  refine g_gets (j := 3) (by decide +kernel : decode prog_2_method_3_code 28 = .ok (.getstatic 41, 3)) (by decide) sl_Ac_41 ?_
  refine g_rolen (j := 3) (by decide +kernel : decode prog_2_method_3_code 31 = .ok (.arraylength, 1)) (by decide) ?_
  refine g_icmp_ltN (tgt := 37) (by decide +kernel : decode prog_2_method_3_code 32 = .ok (.if_icmp .lt 5, 3)) (by decide) (by decide) (by decide) (fun _ => ?_) (fun h => absurd (by decide) h)
  refine g_gets (j := 3) (by decide +kernel : decode prog_2_method_3_code 37 = .ok (.getstatic 41, 3)) (by decide) sl_Ac_41 ?_
  refine g_iload (by decide +kernel : decode prog_2_method_3_code 40 = .ok (.iload 5, 2)) rfl ?_
  refine g_roload (j := 3) (a := 11) (by decide +kernel : decode prog_2_method_3_code 42 = .ok (.iaload, 1)) (by decide) rfl (by decide) ?_
  refine g_top (w := nI 31) (rfl) ?_
  refine g_istore (L' := [some (.ref 0), some (.int (nI 2)), some (.int (nI 3)), some (.int x), some (.int (nI d)), some (.int (nI 11)), some (.int (nI 31)), none]) (by decide +kernel : decode prog_2_method_3_code 43 = .ok (.istore 6, 2)) (Nat.le_of_ble_eq_true rfl) rfl ?_
  refine g_aload_n (by decide +kernel : decode prog_2_method_3_code 45 = .ok (.aload_n 0, 1)) rfl ?_
  refine g_getI (by decide +kernel : decode prog_2_method_3_code 46 = .ok (.getfield 44, 3)) fl_Ac_44.get rfl rfl ?_
  refine g_top (w := nI r) (rfl) ?_
  refine g_bipush (v := nI 30) (by decide +kernel : decode prog_2_method_3_code 49 = .ok (.bipush 30, 2)) (by decide) ?_
  refine g_icmp_geN (tgt := 72) (by decide +kernel : decode prog_2_method_3_code 51 = .ok (.if_icmp .ge 21, 3)) (by decide) (by omega) (by decide) (fun h => absurd h (by omega)) (fun _ => ?_)
  refine g_aload_n (by decide +kernel : decode prog_2_method_3_code 54 = .ok (.aload_n 0, 1)) rfl ?_
  refine g_getR (by decide +kernel : decode prog_2_method_3_code 55 = .ok (.getfield 9, 3)) fl_Ac_9 rfl rfl ?_
  refine g_aload_n (by decide +kernel : decode prog_2_method_3_code 58 = .ok (.aload_n 0, 1)) rfl ?_
  refine g_dup (by decide +kernel : decode prog_2_method_3_code 59 = .ok (.dup, 1)) rfl ?_
  refine g_getI (by decide +kernel : decode prog_2_method_3_code 60 = .ok (.getfield 44, 3)) fl_Ac_44.get rfl rfl ?_
  refine g_top (w := nI r) (rfl) ?_
  refine g_dup_x1 (by decide +kernel : decode prog_2_method_3_code 63 = .ok (.dup_x1, 1)) rfl rfl ?_
  refine g_iconst (v := nI 1) (by decide +kernel : decode prog_2_method_3_code 64 = .ok (.iconst 1, 1)) (by decide) ?_
  refine g_iaddN (by decide +kernel : decode prog_2_method_3_code 65 = .ok (.iadd, 1)) ?_
  refine g_putI (by decide +kernel : decode prog_2_method_3_code 66 = .ok (.putfield 44, 3)) fl_Ac_44 rfl rfl ?_
  refine g_sto (bS_r _ _ _ _ _) ?_
  refine g_iload (by decide +kernel : decode prog_2_method_3_code 69 = .ok (.iload 6, 2)) rfl ?_
  refine g_iastore (a := r) (by decide +kernel : decode prog_2_method_3_code 71 = .ok (.iastore, 1)) rfl rfl (by omega) (by decide) ?_
  refine g_sto (bS_1 _ _ _ _ _ _) ?_
  refine g_iload (by decide +kernel : decode prog_2_method_3_code 72 = .ok (.iload 4, 2)) rfl ?_
  refine g_iconst (v := nI 1) (by decide +kernel : decode prog_2_method_3_code 74 = .ok (.iconst 1, 1)) (by decide) ?_
  refine g_iaddN (by decide +kernel : decode prog_2_method_3_code 75 = .ok (.iadd, 1)) ?_
  refine g_istore (L' := [some (.ref 0), some (.int (nI 2)), some (.int (nI 3)), some (.int x), some (.int (nI d)), some (.int (nI 11)), some (.int (nI 31)), some (.int (nI (d + 1)))]) (by decide +kernel : decode prog_2_method_3_code 76 = .ok (.istore 7, 2)) (Nat.le_of_ble_eq_true rfl) rfl ?_
  refine g_iload (by decide +kernel : decode prog_2_method_3_code 78 = .ok (.iload 6, 2)) rfl ?_
  refine g_tableIn (x := nI 31) (off := 308) (tgt := 388) (by decide +kernel : decode prog_2_method_3_code 80 = .ok (.tableswitch 442 10 61 #[224, 233, 253, 268, 442, 442, 442, 442, 442, 442, 284, 442, 442, 442, 442, 442, 442, 442, 442, 442, 296, 308, 442, 442, 442, 442, 442, 442, 442, 442, 334, 346, 442, 442, 442, 442, 442, 442, 442, 442, 372, 389, 442, 442, 442, 442, 442, 442, 442, 442, 404, 416], 224)) (by decide) (by decide) rfl (by decide) ?_
  refine g_aload_n (by decide +kernel : decode prog_2_method_3_code 388 = .ok (.aload_n 0, 1)) rfl ?_
  refine g_iconst (v := nI 0) (by decide +kernel : decode prog_2_method_3_code 389 = .ok (.iconst 0, 1)) (by decide) ?_
  refine g_iconst (v := nI 3) (by decide +kernel : decode prog_2_method_3_code 390 = .ok (.iconst 3, 1)) (by decide) ?_
  refine g_iload_n (by decide +kernel : decode prog_2_method_3_code 391 = .ok (.iload_n 3, 1)) rfl ?_
  refine g_iload (by decide +kernel : decode prog_2_method_3_code 392 = .ok (.iload 7, 2)) rfl ?_
  refine g_callVI [.int (nI 0), .int (nI 3), .int x, .int (nI (d + 1))] (by decide +kernel : decode prog_2_method_3_code 394 = .ok (.invokevirtual 37, 3)) lk_Ac_37 (r_2_0_3 σ (upd B r (nI 31)) (r + 1) (x) hk hn ha (d := (d + 1)) (by omega) (by omega)) rfl rfl rfl rfl (Nat.le_of_ble_eq_true rfl) (Nat.le_of_ble_eq_true rfl) (fun r394 s394 h394 => ?_)
  obtain ⟨rfl, rfl⟩ := h394
  refine g_aload_n (by decide +kernel : decode prog_2_method_3_code 397 = .ok (.aload_n 0, 1)) rfl ?_
  refine g_aload_n (by decide +kernel : decode prog_2_method_3_code 398 = .ok (.aload_n 0, 1)) rfl ?_
  refine g_getI (by decide +kernel : decode prog_2_method_3_code 399 = .ok (.getfield 24, 3)) fl_Ac_24.get rfl rfl ?_
  refine g_top (w := nI 2) (hk) ?_
  refine g_iconst (v := nI 2) (by decide +kernel : decode prog_2_method_3_code 402 = .ok (.iconst 2, 1)) (by decide) ?_
  refine g_aload_n (by decide +kernel : decode prog_2_method_3_code 403 = .ok (.aload_n 0, 1)) rfl ?_
  refine g_getI (by decide +kernel : decode prog_2_method_3_code 404 = .ok (.getfield 28, 3)) fl_Ac_28.get rfl rfl ?_
  refine g_top (w := nI n) (hn) ?_
  refine g_iload (by decide +kernel : decode prog_2_method_3_code 407 = .ok (.iload 7, 2)) rfl ?_
  refine g_callVI [.int (nI 2), .int (nI 2), .int (nI n), .int (nI (d + 1))] (by decide +kernel : decode prog_2_method_3_code 409 = .ok (.invokevirtual 37, 3)) lk_Ac_37 (r_2_2_2d σ (wl (upd B r (nI 31)) (r + 1) [nI 13, nI 11, nI 30, nI 10]) (r + 1 + 4) (nI n) hk hn ha (d := (d + 1)) (by omega) (by omega) hn7 ha9 hna) rfl rfl rfl rfl (Nat.le_of_ble_eq_true rfl) (Nat.le_of_ble_eq_true rfl) (fun r409 s409 h409 => ?_)
  obtain ⟨rfl, rfl⟩ := h409
  refine g_isub (by decide +kernel : decode prog_2_method_3_code 412 = .ok (.isub, 1)) ?_
  exact g_iret hR (by decide +kernel : decode prog_2_method_3_code 413 = .ok (.ireturn, 1)) rfl ⟨_, rfl, ⟨rfl, rfl⟩⟩
set_option maxRecDepth 20000 in
theorem r_3_1_0 (σ : Store) (B : Row) (r : Nat) (x : Int32) {n a : Nat} (hk : σ 0 2 = nI 3) (hn : σ 0 3 = nI n) (ha : σ 0 4 = nI a) {d : Nat} (hd : d + 1 ≤ 12) (hr : r + 1 ≤ 30) : Ct ΛA mt_Ac_run 1 [.ref 0, .int (nI 1), .int (nI 0), .int x, .int (nI d)] (bS σ B r 0) (PF (x - nI (n * 2)) (bS σ (wl B r [nI 10]) (r + 1) 0)) := by
  refine Ct.of (by decide) (Nat.le_of_ble_eq_true rfl) (fun X hR => ?_)
  show G (ΛA, mt_Ac_run, 1) X (bS σ B r 0) [some (.ref 0), some (.int (nI 1)), some (.int (nI 0)), some (.int x), some (.int (nI d)), none, none, none] [] 0
  refine g_iload_n (by decide +kernel : decode prog_2_method_3_code 0 = .ok (.iload_n 1, 1)) rfl ?_
  refine g_iconst (v := nI 4) (by decide +kernel : decode prog_2_method_3_code 1 = .ok (.iconst 4, 1)) (by decide) ?_
  refine g_imulN (by decide +kernel : decode prog_2_method_3_code 2 = .ok (.imul, 1)) ?_
  refine g_iload_n (by decide +kernel : decode prog_2_method_3_code 3 = .ok (.iload_n 2, 1)) rfl ?_
  refine g_iadd (by decide +kernel : decode prog_2_method_3_code 4 = .ok (.iadd, 1)) ?_
  refine g_top (w := nI 4) (by decide) ?_
  refine g_istore (L' := [some (.ref 0), some (.int (nI 1)), some (.int (nI 0)), some (.int x), some (.int (nI d)), some (.int (nI 4)), none, none]) (by decide +kernel : decode prog_2_method_3_code 5 = .ok (.istore 5, 2)) (Nat.le_of_ble_eq_true rfl) rfl ?_
  refine g_iload (by decide +kernel : decode prog_2_method_3_code 7 = .ok (.iload 4, 2)) rfl ?_
  refine g_bipush (v := nI 12) (by decide +kernel : decode prog_2_method_3_code 9 = .ok (.bipush 12, 2)) (by decide) ?_
  refine g_icmp_gtN (tgt := 35) (by decide +kernel : decode prog_2_method_3_code 11 = .ok (.if_icmp .gt 24, 3)) (by decide) (by omega) (by decide) (fun h => absurd h (by omega)) (fun _ => ?_)
  refine g_aload_n (by decide +kernel : decode prog_2_method_3_code 14 = .ok (.aload_n 0, 1)) rfl ?_
  refine g_getI (by decide +kernel : decode prog_2_method_3_code 15 = .ok (.getfield 15, 3)) fl_Ac_15.get rfl rfl ?_
  refine g_top (w := nI 0) (rfl) ?_
  refine g_if_neN (tgt := 35) (by decide +kernel : decode prog_2_method_3_code 18 = .ok (.ifCond .ne 17, 3)) (by decide) (by decide) (fun h => False.elim (by revert h; decide)) (fun _ => ?_)
  refine g_iload (by decide +kernel : decode prog_2_method_3_code 21 = .ok (.iload 5, 2)) rfl ?_
  refine g_if_ltN (by decide +kernel : decode prog_2_method_3_code 23 = .ok (.ifCond .lt 12, 3)) (by decide) (by decide) ?_
  refine g_iload (by decide +kernel : decode prog_2_method_3_code 26 = .ok (.iload 5, 2)) rfl ?_
  refine g_gets (j := 3) (by decide +kernel : decode prog_2_method_3_code 28 = .ok (.getstatic 41, 3)) (by decide) sl_Ac_41 ?_
  refine g_rolen (j := 3) (by decide +kernel : decode prog_2_method_3_code 31 = .ok (.arraylength, 1)) (by decide) ?_
  refine g_icmp_ltN (tgt := 37) (by decide +kernel : decode prog_2_method_3_code 32 = .ok (.if_icmp .lt 5, 3)) (by decide) (by decide) (by decide) (fun _ => ?_) (fun h => absurd (by decide) h)
  refine g_gets (j := 3) (by decide +kernel : decode prog_2_method_3_code 37 = .ok (.getstatic 41, 3)) (by decide) sl_Ac_41 ?_
  refine g_iload (by decide +kernel : decode prog_2_method_3_code 40 = .ok (.iload 5, 2)) rfl ?_
  refine g_roload (j := 3) (a := 4) (by decide +kernel : decode prog_2_method_3_code 42 = .ok (.iaload, 1)) (by decide) rfl (by decide) ?_
  refine g_top (w := nI 10) (rfl) ?_
  refine g_istore (L' := [some (.ref 0), some (.int (nI 1)), some (.int (nI 0)), some (.int x), some (.int (nI d)), some (.int (nI 4)), some (.int (nI 10)), none]) (by decide +kernel : decode prog_2_method_3_code 43 = .ok (.istore 6, 2)) (Nat.le_of_ble_eq_true rfl) rfl ?_
  refine g_aload_n (by decide +kernel : decode prog_2_method_3_code 45 = .ok (.aload_n 0, 1)) rfl ?_
  refine g_getI (by decide +kernel : decode prog_2_method_3_code 46 = .ok (.getfield 44, 3)) fl_Ac_44.get rfl rfl ?_
  refine g_top (w := nI r) (rfl) ?_
  refine g_bipush (v := nI 30) (by decide +kernel : decode prog_2_method_3_code 49 = .ok (.bipush 30, 2)) (by decide) ?_
  refine g_icmp_geN (tgt := 72) (by decide +kernel : decode prog_2_method_3_code 51 = .ok (.if_icmp .ge 21, 3)) (by decide) (by omega) (by decide) (fun h => absurd h (by omega)) (fun _ => ?_)
  refine g_aload_n (by decide +kernel : decode prog_2_method_3_code 54 = .ok (.aload_n 0, 1)) rfl ?_
  refine g_getR (by decide +kernel : decode prog_2_method_3_code 55 = .ok (.getfield 9, 3)) fl_Ac_9 rfl rfl ?_
  refine g_aload_n (by decide +kernel : decode prog_2_method_3_code 58 = .ok (.aload_n 0, 1)) rfl ?_
  refine g_dup (by decide +kernel : decode prog_2_method_3_code 59 = .ok (.dup, 1)) rfl ?_
  refine g_getI (by decide +kernel : decode prog_2_method_3_code 60 = .ok (.getfield 44, 3)) fl_Ac_44.get rfl rfl ?_
  refine g_top (w := nI r) (rfl) ?_
  refine g_dup_x1 (by decide +kernel : decode prog_2_method_3_code 63 = .ok (.dup_x1, 1)) rfl rfl ?_
  refine g_iconst (v := nI 1) (by decide +kernel : decode prog_2_method_3_code 64 = .ok (.iconst 1, 1)) (by decide) ?_
  refine g_iaddN (by decide +kernel : decode prog_2_method_3_code 65 = .ok (.iadd, 1)) ?_
  refine g_putI (by decide +kernel : decode prog_2_method_3_code 66 = .ok (.putfield 44, 3)) fl_Ac_44 rfl rfl ?_
  refine g_sto (bS_r _ _ _ _ _) ?_
  refine g_iload (by decide +kernel : decode prog_2_method_3_code 69 = .ok (.iload 6, 2)) rfl ?_
  refine g_iastore (a := r) (by decide +kernel : decode prog_2_method_3_code 71 = .ok (.iastore, 1)) rfl rfl (by omega) (by decide) ?_
  refine g_sto (bS_1 _ _ _ _ _ _) ?_
  refine g_iload (by decide +kernel : decode prog_2_method_3_code 72 = .ok (.iload 4, 2)) rfl ?_
  refine g_iconst (v := nI 1) (by decide +kernel : decode prog_2_method_3_code 74 = .ok (.iconst 1, 1)) (by decide) ?_
  refine g_iaddN (by decide +kernel : decode prog_2_method_3_code 75 = .ok (.iadd, 1)) ?_
  refine g_istore (L' := [some (.ref 0), some (.int (nI 1)), some (.int (nI 0)), some (.int x), some (.int (nI d)), some (.int (nI 4)), some (.int (nI 10)), some (.int (nI (d + 1)))]) (by decide +kernel : decode prog_2_method_3_code 76 = .ok (.istore 7, 2)) (Nat.le_of_ble_eq_true rfl) rfl ?_
  refine g_iload (by decide +kernel : decode prog_2_method_3_code 78 = .ok (.iload 6, 2)) rfl ?_
  refine g_tableIn (x := nI 10) (off := 224) (tgt := 304) (by decide +kernel : decode prog_2_method_3_code 80 = .ok (.tableswitch 442 10 61 #[224, 233, 253, 268, 442, 442, 442, 442, 442, 442, 284, 442, 442, 442, 442, 442, 442, 442, 442, 442, 296, 308, 442, 442, 442, 442, 442, 442, 442, 442, 334, 346, 442, 442, 442, 442, 442, 442, 442, 442, 372, 389, 442, 442, 442, 442, 442, 442, 442, 442, 404, 416], 224)) (by decide) (by decide) rfl (by decide) ?_
  refine g_iload_n (by decide +kernel : decode prog_2_method_3_code 304 = .ok (.iload_n 3, 1)) rfl ?_
  refine g_aload_n (by decide +kernel : decode prog_2_method_3_code 305 = .ok (.aload_n 0, 1)) rfl ?_
  refine g_getI (by decide +kernel : decode prog_2_method_3_code 306 = .ok (.getfield 28, 3)) fl_Ac_28.get rfl rfl ?_
  refine g_top (w := nI n) (hn) ?_
  refine g_iconst (v := nI 2) (by decide +kernel : decode prog_2_method_3_code 309 = .ok (.iconst 2, 1)) (by decide) ?_
  refine g_imulN (by decide +kernel : decode prog_2_method_3_code 310 = .ok (.imul, 1)) ?_
  refine g_isub (by decide +kernel : decode prog_2_method_3_code 311 = .ok (.isub, 1)) ?_
  exact g_iret hR (by decide +kernel : decode prog_2_method_3_code 312 = .ok (.ireturn, 1)) rfl ⟨_, rfl, ⟨rfl, rfl⟩⟩
set_option maxRecDepth 20000 in
theorem r_3_3_0 (σ : Store) (B : Row) (r : Nat) (x : Int32) {n a : Nat} (hk : σ 0 2 = nI 3) (hn : σ 0 3 = nI n) (ha : σ 0 4 = nI a) {d : Nat} (hd : d + 2 ≤ 12) (hr : r + 2 ≤ 30) : Ct ΛA mt_Ac_run 2 [.ref 0, .int (nI 3), .int (nI 0), .int x, .int (nI d)] (bS σ B r 0) (PF ((x - nI (n * 2)) - nI n) (bS σ (wl B r [nI 51, nI 10]) (r + 2) 0)) := by
  refine Ct.of (by decide) (Nat.le_of_ble_eq_true rfl) (fun X hR => ?_)
  show G (ΛA, mt_Ac_run, 2) X (bS σ B r 0) [some (.ref 0), some (.int (nI 3)), some (.int (nI 0)), some (.int x), some (.int (nI d)), none, none, none] [] 0
  refine g_iload_n (by decide +kernel : decode prog_2_method_3_code 0 = .ok (.iload_n 1, 1)) rfl ?_
  refine g_iconst (v := nI 4) (by decide +kernel : decode prog_2_method_3_code 1 = .ok (.iconst 4, 1)) (by decide) ?_
  refine g_imulN (by decide +kernel : decode prog_2_method_3_code 2 = .ok (.imul, 1)) ?_
  refine g_iload_n (by decide +kernel : decode prog_2_method_3_code 3 = .ok (.iload_n 2, 1)) rfl ?_
  refine g_iadd (by decide +kernel : decode prog_2_method_3_code 4 = .ok (.iadd, 1)) ?_
  refine g_top (w := nI 12) (by decide) ?_
  refine g_istore (L' := [some (.ref 0), some (.int (nI 3)), some (.int (nI 0)), some (.int x), some (.int (nI d)), some (.int (nI 12)), none, none]) (by decide +kernel : decode prog_2_method_3_code 5 = .ok (.istore 5, 2)) (Nat.le_of_ble_eq_true rfl) rfl ?_
  refine g_iload (by decide +kernel : decode prog_2_method_3_code 7 = .ok (.iload 4, 2)) rfl ?_
  refine g_bipush (v := nI 12) (by decide +kernel : decode prog_2_method_3_code 9 = .ok (.bipush 12, 2)) (by decide) ?_
  refine g_icmp_gtN (tgt := 35) (by decide +kernel : decode prog_2_method_3_code 11 = .ok (.if_icmp .gt 24, 3)) (by decide) (by omega) (by decide) (fun h => absurd h (by omega)) (fun _ => ?_)
  refine g_aload_n (by decide +kernel : decode prog_2_method_3_code 14 = .ok (.aload_n 0, 1)) rfl ?_
  refine g_getI (by decide +kernel : decode prog_2_method_3_code 15 = .ok (.getfield 15, 3)) fl_Ac_15.get rfl rfl ?_
  refine g_top (w := nI 0) (rfl) ?_
  refine g_if_neN (tgt := 35) (by decide +kernel : decode prog_2_method_3_code 18 = .ok (.ifCond .ne 17, 3)) (by decide) (by decide) (fun h => False.elim (by revert h; decide)) (fun _ => ?_)
  refine g_iload (by decide +kernel : decode prog_2_method_3_code 21 = .ok (.iload 5, 2)) rfl ?_
  refine g_if_ltN (by decide +kernel : decode prog_2_method_3_code 23 = .ok (.ifCond .lt 12, 3)) (by decide) (by decide) ?_
  refine g_iload (by decide +kernel : decode prog_2_method_3_code 26 = .ok (.iload 5, 2)) rfl ?_
  refine g_gets (j := 3) (by decide +kernel : decode prog_2_method_3_code 28 = .ok (.getstatic 41, 3)) (by decide) sl_Ac_41 ?_
  refine g_rolen (j := 3) (by decide +kernel : decode prog_2_method_3_code 31 = .ok (.arraylength, 1)) (by decide) ?_
  refine g_icmp_ltN (tgt := 37) (by decide +kernel : decode prog_2_method_3_code 32 = .ok (.if_icmp .lt 5, 3)) (by decide) (by decide) (by decide) (fun _ => ?_) (fun h => absurd (by decide) h)
  refine g_gets (j := 3) (by decide +kernel : decode prog_2_method_3_code 37 = .ok (.getstatic 41, 3)) (by decide) sl_Ac_41 ?_
  refine g_iload (by decide +kernel : decode prog_2_method_3_code 40 = .ok (.iload 5, 2)) rfl ?_
  refine g_roload (j := 3) (a := 12) (by decide +kernel : decode prog_2_method_3_code 42 = .ok (.iaload, 1)) (by decide) rfl (by decide) ?_
  refine g_top (w := nI 51) (rfl) ?_
  refine g_istore (L' := [some (.ref 0), some (.int (nI 3)), some (.int (nI 0)), some (.int x), some (.int (nI d)), some (.int (nI 12)), some (.int (nI 51)), none]) (by decide +kernel : decode prog_2_method_3_code 43 = .ok (.istore 6, 2)) (Nat.le_of_ble_eq_true rfl) rfl ?_
  refine g_aload_n (by decide +kernel : decode prog_2_method_3_code 45 = .ok (.aload_n 0, 1)) rfl ?_
  refine g_getI (by decide +kernel : decode prog_2_method_3_code 46 = .ok (.getfield 44, 3)) fl_Ac_44.get rfl rfl ?_
  refine g_top (w := nI r) (rfl) ?_
  refine g_bipush (v := nI 30) (by decide +kernel : decode prog_2_method_3_code 49 = .ok (.bipush 30, 2)) (by decide) ?_
  refine g_icmp_geN (tgt := 72) (by decide +kernel : decode prog_2_method_3_code 51 = .ok (.if_icmp .ge 21, 3)) (by decide) (by omega) (by decide) (fun h => absurd h (by omega)) (fun _ => ?_)
  refine g_aload_n (by decide +kernel : decode prog_2_method_3_code 54 = .ok (.aload_n 0, 1)) rfl ?_
  refine g_getR (by decide +kernel : decode prog_2_method_3_code 55 = .ok (.getfield 9, 3)) fl_Ac_9 rfl rfl ?_
  refine g_aload_n (by decide +kernel : decode prog_2_method_3_code 58 = .ok (.aload_n 0, 1)) rfl ?_
  refine g_dup (by decide +kernel : decode prog_2_method_3_code 59 = .ok (.dup, 1)) rfl ?_
  refine g_getI (by decide +kernel : decode prog_2_method_3_code 60 = .ok (.getfield 44, 3)) fl_Ac_44.get rfl rfl ?_
  refine g_top (w := nI r) (rfl) ?_
  refine g_dup_x1 (by decide +kernel : decode prog_2_method_3_code 63 = .ok (.dup_x1, 1)) rfl rfl ?_
  refine g_iconst (v := nI 1) (by decide +kernel : decode prog_2_method_3_code 64 = .ok (.iconst 1, 1)) (by decide) ?_
  refine g_iaddN (by decide +kernel : decode prog_2_method_3_code 65 = .ok (.iadd, 1)) ?_
  refine g_putI (by decide +kernel : decode prog_2_method_3_code 66 = .ok (.putfield 44, 3)) fl_Ac_44 rfl rfl ?_
  refine g_sto (bS_r _ _ _ _ _) ?_
  refine g_iload (by decide +kernel : decode prog_2_method_3_code 69 = .ok (.iload 6, 2)) rfl ?_
  refine g_iastore (a := r) (by decide +kernel : decode prog_2_method_3_code 71 = .ok (.iastore, 1)) rfl rfl (by omega) (by decide) ?_
  refine g_sto (bS_1 _ _ _ _ _ _) ?_
  refine g_iload (by decide +kernel : decode prog_2_method_3_code 72 = .ok (.iload 4, 2)) rfl ?_
  refine g_iconst (v := nI 1) (by decide +kernel : decode prog_2_method_3_code 74 = .ok (.iconst 1, 1)) (by decide) ?_
  refine g_iaddN (by decide +kernel : decode prog_2_method_3_code 75 = .ok (.iadd, 1)) ?_
  refine g_istore (L' := [some (.ref 0), some (.int (nI 3)), some (.int (nI 0)), some (.int x), some (.int (nI d)), some (.int (nI 12)), some (.int (nI 51)), some (.int (nI (d + 1)))]) (by decide +kernel : decode prog_2_method_3_code 76 = .ok (.istore 7, 2)) (Nat.le_of_ble_eq_true rfl) rfl ?_
  refine g_iload (by decide +kernel : decode prog_2_method_3_code 78 = .ok (.iload 6, 2)) rfl ?_
  refine g_tableIn (x := nI 51) (off := 389) (tgt := 469) (by decide +kernel : decode prog_2_method_3_code 80 = .ok (.tableswitch 442 10 61 #[224, 233, 253, 268, 442, 442, 442, 442, 442, 442, 284, 442, 442, 442, 442, 442, 442, 442, 442, 442, 296, 308, 442, 442, 442, 442, 442, 442, 442, 442, 334, 346, 442, 442, 442, 442, 442, 442, 442, 442, 372, 389, 442, 442, 442, 442, 442, 442, 442, 442, 404, 416], 224)) (by decide) (by decide) rfl (by decide) ?_
  refine g_aload_n (by decide +kernel : decode prog_2_method_3_code 469 = .ok (.aload_n 0, 1)) rfl ?_
  refine g_iconst (v := nI 1) (by decide +kernel : decode prog_2_method_3_code 470 = .ok (.iconst 1, 1)) (by decide) ?_
  refine g_iconst (v := nI 0) (by decide +kernel : decode prog_2_method_3_code 471 = .ok (.iconst 0, 1)) (by decide) ?_
  refine g_iload_n (by decide +kernel : decode prog_2_method_3_code 472 = .ok (.iload_n 3, 1)) rfl ?_
  refine g_iload (by decide +kernel : decode prog_2_method_3_code 473 = .ok (.iload 7, 2)) rfl ?_
  refine g_callVI [.int (nI 1), .int (nI 0), .int x, .int (nI (d + 1))] (by decide +kernel : decode prog_2_method_3_code 475 = .ok (.invokevirtual 37, 3)) lk_Ac_37 (r_3_1_0 σ (upd B r (nI 51)) (r + 1) (x) hk hn ha (d := (d + 1)) (by omega) (by omega)) rfl rfl rfl rfl (Nat.le_of_ble_eq_true rfl) (Nat.le_of_ble_eq_true rfl) (fun r475 s475 h475 => ?_)
  obtain ⟨rfl, rfl⟩ := h475
  refine g_aload_n (by decide +kernel : decode prog_2_method_3_code 478 = .ok (.aload_n 0, 1)) rfl ?_
  refine g_getI (by decide +kernel : decode prog_2_method_3_code 479 = .ok (.getfield 28, 3)) fl_Ac_28.get rfl rfl ?_
  refine g_top (w := nI n) (hn) ?_
  refine g_isub (by decide +kernel : decode prog_2_method_3_code 482 = .ok (.isub, 1)) ?_
  exact g_iret hR (by decide +kernel : decode prog_2_method_3_code 483 = .ok (.ireturn, 1)) rfl ⟨_, rfl, ⟨rfl, rfl⟩⟩
set_option maxRecDepth 20000 in
theorem r_3_0_1 (σ : Store) (B : Row) (r : Nat) (x : Int32) {n a : Nat} (hk : σ 0 2 = nI 3) (hn : σ 0 3 = nI n) (ha : σ 0 4 = nI a) {d : Nat} (hd : d + 3 ≤ 12) (hr : r + 3 ≤ 30) : Ct ΛA mt_Ac_run 3 [.ref 0, .int (nI 0), .int (nI 1), .int x, .int (nI d)] (bS σ B r 0) (PF (((x - nI (n * 2)) - nI n) * nI 2 - nI a) (bS σ (wl B r [nI 11, nI 51, nI 10]) (r + 3) 0)) := by
  refine Ct.of (by decide) (Nat.le_of_ble_eq_true rfl) (fun X hR => ?_)
  show G (ΛA, mt_Ac_run, 3) X (bS σ B r 0) [some (.ref 0), some (.int (nI 0)), some (.int (nI 1)), some (.int x), some (.int (nI d)), none, none, none] [] 0
  refine g_iload_n (by decide +kernel : decode prog_2_method_3_code 0 = .ok (.iload_n 1, 1)) rfl ?_
  refine g_iconst (v := nI 4) (by decide +kernel : decode prog_2_method_3_code 1 = .ok (.iconst 4, 1)) (by decide) ?_
  refine g_imulN (by decide +kernel : decode prog_2_method_3_code 2 = .ok (.imul, 1)) ?_
  refine g_iload_n (by decide +kernel : decode prog_2_method_3_code 3 = .ok (.iload_n 2, 1)) rfl ?_
  refine g_iadd (by decide +kernel : decode prog_2_method_3_code 4 = .ok (.iadd, 1)) ?_
  refine g_top (w := nI 1) (by decide) ?_
  refine g_istore (L' := [some (.ref 0), some (.int (nI 0)), some (.int (nI 1)), some (.int x), some (.int (nI d)), some (.int (nI 1)), none, none]) (by decide +kernel : decode prog_2_method_3_code 5 = .ok (.istore 5, 2)) (Nat.le_of_ble_eq_true rfl) rfl ?_
  refine g_iload (by decide +kernel : decode prog_2_method_3_code 7 = .ok (.iload 4, 2)) rfl ?_
  refine g_bipush (v := nI 12) (by decide +kernel : decode prog_2_method_3_code 9 = .ok (.bipush 12, 2)) (by decide) ?_
  refine g_icmp_gtN (tgt := 35) (by decide +kernel : decode prog_2_method_3_code 11 = .ok (.if_icmp .gt 24, 3)) (by decide) (by omega) (by decide) (fun h => absurd h (by omega)) (fun _ => ?_)
  refine g_aload_n (by decide +kernel : decode prog_2_method_3_code 14 = .ok (.aload_n 0, 1)) rfl ?_
  refine g_getI (by decide +kernel : decode prog_2_method_3_code 15 = .ok (.getfield 15, 3)) fl_Ac_15.get rfl rfl ?_
  refine g_top (w := nI 0) (rfl) ?_
  refine g_if_neN (tgt := 35) (by decide +kernel : decode prog_2_method_3_code 18 = .ok (.ifCond .ne 17, 3)) (by decide) (by decide) (fun h => False.elim (by revert h; decide)) (fun _ => ?_)
  refine g_iload (by decide +kernel : decode prog_2_method_3_code 21 = .ok (.iload 5, 2)) rfl ?_
  refine g_if_ltN (by decide +kernel : decode prog_2_method_3_code 23 = .ok (.ifCond .lt 12, 3)) (by decide) (by decide) ?_
  refine g_iload (by decide +kernel : decode prog_2_method_3_code 26 = .ok (.iload 5, 2)) rfl ?_
  refine g_gets (j := 3) (by decide +kernel : decode prog_2_method_3_code 28 = .ok (.getstatic 41, 3)) (by decide) sl_Ac_41 ?_
  refine g_rolen (j := 3) (by decide +kernel : decode prog_2_method_3_code 31 = .ok (.arraylength, 1)) (by decide) ?_
  refine g_icmp_ltN (tgt := 37) (by decide +kernel : decode prog_2_method_3_code 32 = .ok (.if_icmp .lt 5, 3)) (by decide) (by decide) (by decide) (fun _ => ?_) (fun h => absurd (by decide) h)
  refine g_gets (j := 3) (by decide +kernel : decode prog_2_method_3_code 37 = .ok (.getstatic 41, 3)) (by decide) sl_Ac_41 ?_
  refine g_iload (by decide +kernel : decode prog_2_method_3_code 40 = .ok (.iload 5, 2)) rfl ?_
  refine g_roload (j := 3) (a := 1) (by decide +kernel : decode prog_2_method_3_code 42 = .ok (.iaload, 1)) (by decide) rfl (by decide) ?_
  refine g_top (w := nI 11) (rfl) ?_
  refine g_istore (L' := [some (.ref 0), some (.int (nI 0)), some (.int (nI 1)), some (.int x), some (.int (nI d)), some (.int (nI 1)), some (.int (nI 11)), none]) (by decide +kernel : decode prog_2_method_3_code 43 = .ok (.istore 6, 2)) (Nat.le_of_ble_eq_true rfl) rfl ?_
  refine g_aload_n (by decide +kernel : decode prog_2_method_3_code 45 = .ok (.aload_n 0, 1)) rfl ?_
  refine g_getI (by decide +kernel : decode prog_2_method_3_code 46 = .ok (.getfield 44, 3)) fl_Ac_44.get rfl rfl ?_
  refine g_top (w := nI r) (rfl) ?_
  refine g_bipush (v := nI 30) (by decide +kernel : decode prog_2_method_3_code 49 = .ok (.bipush 30, 2)) (by decide) ?_
  refine g_icmp_geN (tgt := 72) (by decide +kernel : decode prog_2_method_3_code 51 = .ok (.if_icmp .ge 21, 3)) (by decide) (by omega) (by decide) (fun h => absurd h (by omega)) (fun _ => ?_)
  refine g_aload_n (by decide +kernel : decode prog_2_method_3_code 54 = .ok (.aload_n 0, 1)) rfl ?_
  refine g_getR (by decide +kernel : decode prog_2_method_3_code 55 = .ok (.getfield 9, 3)) fl_Ac_9 rfl rfl ?_
  refine g_aload_n (by decide +kernel : decode prog_2_method_3_code 58 = .ok (.aload_n 0, 1)) rfl ?_
  refine g_dup (by decide +kernel : decode prog_2_method_3_code 59 = .ok (.dup, 1)) rfl ?_
  refine g_getI (by decide +kernel : decode prog_2_method_3_code 60 = .ok (.getfield 44, 3)) fl_Ac_44.get rfl rfl ?_
  refine g_top (w := nI r) (rfl) ?_
  refine g_dup_x1 (by decide +kernel : decode prog_2_method_3_code 63 = .ok (.dup_x1, 1)) rfl rfl ?_
  refine g_iconst (v := nI 1) (by decide +kernel : decode prog_2_method_3_code 64 = .ok (.iconst 1, 1)) (by decide) ?_
  refine g_iaddN (by decide +kernel : decode prog_2_method_3_code 65 = .ok (.iadd, 1)) ?_
  refine g_putI (by decide +kernel : decode prog_2_method_3_code 66 = .ok (.putfield 44, 3)) fl_Ac_44 rfl rfl ?_
  refine g_sto (bS_r _ _ _ _ _) ?_
  refine g_iload (by decide +kernel : decode prog_2_method_3_code 69 = .ok (.iload 6, 2)) rfl ?_
  refine g_iastore (a := r) (by decide +kernel : decode prog_2_method_3_code 71 = .ok (.iastore, 1)) rfl rfl (by omega) (by decide) ?_
  refine g_sto (bS_1 _ _ _ _ _ _) ?_
  refine g_iload (by decide +kernel : decode prog_2_method_3_code 72 = .ok (.iload 4, 2)) rfl ?_
  refine g_iconst (v := nI 1) (by decide +kernel : decode prog_2_method_3_code 74 = .ok (.iconst 1, 1)) (by decide) ?_
  refine g_iaddN (by decide +kernel : decode prog_2_method_3_code 75 = .ok (.iadd, 1)) ?_
  refine g_istore (L' := [some (.ref 0), some (.int (nI 0)), some (.int (nI 1)), some (.int x), some (.int (nI d)), some (.int (nI 1)), some (.int (nI 11)), some (.int (nI (d + 1)))]) (by decide +kernel : decode prog_2_method_3_code 76 = .ok (.istore 7, 2)) (Nat.le_of_ble_eq_true rfl) rfl ?_
  refine g_iload (by decide +kernel : decode prog_2_method_3_code 78 = .ok (.iload 6, 2)) rfl ?_
  refine g_tableIn (x := nI 11) (off := 233) (tgt := 313) (by decide +kernel : decode prog_2_method_3_code 80 = .ok (.tableswitch 442 10 61 #[224, 233, 253, 268, 442, 442, 442, 442, 442, 442, 284, 442, 442, 442, 442, 442, 442, 442, 442, 442, 296, 308, 442, 442, 442, 442, 442, 442, 442, 442, 334, 346, 442, 442, 442, 442, 442, 442, 442, 442, 372, 389, 442, 442, 442, 442, 442, 442, 442, 442, 404, 416], 224)) (by decide) (by decide) rfl (by decide) ?_
  refine g_aload_n (by decide +kernel : decode prog_2_method_3_code 313 = .ok (.aload_n 0, 1)) rfl ?_
  refine g_aload_n (by decide +kernel : decode prog_2_method_3_code 314 = .ok (.aload_n 0, 1)) rfl ?_
  refine g_getI (by decide +kernel : decode prog_2_method_3_code 315 = .ok (.getfield 24, 3)) fl_Ac_24.get rfl rfl ?_
  refine g_top (w := nI 3) (hk) ?_
  refine g_iconst (v := nI 0) (by decide +kernel : decode prog_2_method_3_code 318 = .ok (.iconst 0, 1)) (by decide) ?_
  refine g_iload_n (by decide +kernel : decode prog_2_method_3_code 319 = .ok (.iload_n 3, 1)) rfl ?_
  refine g_iload (by decide +kernel : decode prog_2_method_3_code 320 = .ok (.iload 7, 2)) rfl ?_
  refine g_callVI [.int (nI 3), .int (nI 0), .int x, .int (nI (d + 1))] (by decide +kernel : decode prog_2_method_3_code 322 = .ok (.invokevirtual 37, 3)) lk_Ac_37 (r_3_3_0 σ (upd B r (nI 11)) (r + 1) (x) hk hn ha (d := (d + 1)) (by omega) (by omega)) rfl rfl rfl rfl (Nat.le_of_ble_eq_true rfl) (Nat.le_of_ble_eq_true rfl) (fun r322 s322 h322 => ?_)
  obtain ⟨rfl, rfl⟩ := h322
  refine g_iconst (v := nI 2) (by decide +kernel : decode prog_2_method_3_code 325 = .ok (.iconst 2, 1)) (by decide) ?_
  refine g_imul (by decide +kernel : decode prog_2_method_3_code 326 = .ok (.imul, 1)) ?_
  refine g_aload_n (by decide +kernel : decode prog_2_method_3_code 327 = .ok (.aload_n 0, 1)) rfl ?_
  refine g_getI (by decide +kernel : decode prog_2_method_3_code 328 = .ok (.getfield 34, 3)) fl_Ac_34.get rfl rfl ?_
  refine g_top (w := nI a) (ha) ?_
  refine g_isub (by decide +kernel : decode prog_2_method_3_code 331 = .ok (.isub, 1)) ?_
  exact g_iret hR (by decide +kernel : decode prog_2_method_3_code 332 = .ok (.ireturn, 1)) rfl ⟨_, rfl, ⟨rfl, rfl⟩⟩
set_option maxRecDepth 20000 in
theorem r_3_3_1 (σ : Store) (B : Row) (r : Nat) (x : Int32) {n a : Nat} (hk : σ 0 2 = nI 3) (hn : σ 0 3 = nI n) (ha : σ 0 4 = nI a) {d : Nat} (hd : d + 4 ≤ 12) (hr : r + 4 ≤ 30) : Ct ΛA mt_Ac_run 4 [.ref 0, .int (nI 3), .int (nI 1), .int x, .int (nI d)] (bS σ B r 0) (PF ((((x - nI (n * 2)) - nI n) * nI 2 - nI a) + nI 5) (bS σ (wl B r [nI 20, nI 11, nI 51, nI 10]) (r + 4) 0)) := by
  refine Ct.of (by decide) (Nat.le_of_ble_eq_true rfl) (fun X hR => ?_)
  show G (ΛA, mt_Ac_run, 4) X (bS σ B r 0) [some (.ref 0), some (.int (nI 3)), some (.int (nI 1)), some (.int x), some (.int (nI d)), none, none, none] [] 0
  refine g_iload_n (by decide +kernel : decode prog_2_method_3_code 0 = .ok (.iload_n 1, 1)) rfl ?_
  refine g_iconst (v := nI 4) (by decide +kernel : decode prog_2_method_3_code 1 = .ok (.iconst 4, 1)) (by decide) ?_
  refine g_imulN (by decide +kernel : decode prog_2_method_3_code 2 = .ok (.imul, 1)) ?_
  refine g_iload_n (by decide +kernel : decode prog_2_method_3_code 3 = .ok (.iload_n 2, 1)) rfl ?_
  refine g_iadd (by decide +kernel : decode prog_2_method_3_code 4 = .ok (.iadd, 1)) ?_
  refine g_top (w := nI 13) (by decide) ?_
  refine g_istore (L' := [some (.ref 0), some (.int (nI 3)), some (.int (nI 1)), some (.int x), some (.int (nI d)), some (.int (nI 13)), none, none]) (by decide +kernel : decode prog_2_method_3_code 5 = .ok (.istore 5, 2)) (Nat.le_of_ble_eq_true rfl) rfl ?_
  refine g_iload (by decide +kernel : decode prog_2_method_3_code 7 = .ok (.iload 4, 2)) rfl ?_
  refine g_bipush (v := nI 12) (by decide +kernel : decode prog_2_method_3_code 9 = .ok (.bipush 12, 2)) (by decide) ?_
  refine g_icmp_gtN (tgt := 35) (by decide +kernel : decode prog_2_method_3_code 11 = .ok (.if_icmp .gt 24, 3)) (by decide) (by omega) (by decide) (fun h => absurd h (by omega)) (fun _ => ?_)
  refine g_aload_n (by decide +kernel : decode prog_2_method_3_code 14 = .ok (.aload_n 0, 1)) rfl ?_
  refine g_getI (by decide +kernel : decode prog_2_method_3_code 15 = .ok (.getfield 15, 3)) fl_Ac_15.get rfl rfl ?_
  refine g_top (w := nI 0) (rfl) ?_
  refine g_if_neN (tgt := 35) (by decide +kernel : decode prog_2_method_3_code 18 = .ok (.ifCond .ne 17, 3)) (by decide) (by decide) (fun h => False.elim (by revert h; decide)) (fun _ => ?_)
  refine g_iload (by decide +kernel : decode prog_2_method_3_code 21 = .ok (.iload 5, 2)) rfl ?_
  refine g_if_ltN (by decide +kernel : decode prog_2_method_3_code 23 = .ok (.ifCond .lt 12, 3)) (by decide) (by decide) ?_
  refine g_iload (by decide +kernel : decode prog_2_method_3_code 26 = .ok (.iload 5, 2)) rfl ?_
  refine g_gets (j := 3) (by decide +kernel : decode prog_2_method_3_code 28 = .ok (.getstatic 41, 3)) (by decide) sl_Ac_41 ?_
  refine g_rolen (j := 3) (by decide +kernel : decode prog_2_method_3_code 31 = .ok (.arraylength, 1)) (by decide) ?_
  refine g_icmp_ltN (tgt := 37) (by decide +kernel : decode prog_2_method_3_code 32 = .ok (.if_icmp .lt 5, 3)) (by decide) (by decide) (by decide) (fun _ => ?_) (fun h => absurd (by decide) h)
  refine g_gets (j := 3) (by decide +kernel : decode prog_2_method_3_code 37 = .ok (.getstatic 41, 3)) (by decide) sl_Ac_41 ?_
  refine g_iload (by decide +kernel : decode prog_2_method_3_code 40 = .ok (.iload 5, 2)) rfl ?_
  refine g_roload (j := 3) (a := 13) (by decide +kernel : decode prog_2_method_3_code 42 = .ok (.iaload, 1)) (by decide) rfl (by decide) ?_
  refine g_top (w := nI 20) (rfl) ?_
  refine g_istore (L' := [some (.ref 0), some (.int (nI 3)), some (.int (nI 1)), some (.int x), some (.int (nI d)), some (.int (nI 13)), some (.int (nI 20)), none]) (by decide +kernel : decode prog_2_method_3_code 43 = .ok (.istore 6, 2)) (Nat.le_of_ble_eq_true rfl) rfl ?_
  refine g_aload_n (by decide +kernel : decode prog_2_method_3_code 45 = .ok (.aload_n 0, 1)) rfl ?_
  refine g_getI (by decide +kernel : decode prog_2_method_3_code 46 = .ok (.getfield 44, 3)) fl_Ac_44.get rfl rfl ?_
  refine g_top (w := nI r) (rfl) ?_
  refine g_bipush (v := nI 30) (by decide +kernel : decode prog_2_method_3_code 49 = .ok (.bipush 30, 2)) (by decide) ?_
  refine g_icmp_geN (tgt := 72) (by decide +kernel : decode prog_2_method_3_code 51 = .ok (.if_icmp .ge 21, 3)) (by decide) (by omega) (by decide) (fun h => absurd h (by omega)) (fun _ => ?_)
  refine g_aload_n (by decide +kernel : decode prog_2_method_3_code 54 = .ok (.aload_n 0, 1)) rfl ?_
  refine g_getR (by decide +kernel : decode prog_2_method_3_code 55 = .ok (.getfield 9, 3)) fl_Ac_9 rfl rfl ?_
  refine g_aload_n (by decide +kernel : decode prog_2_method_3_code 58 = .ok (.aload_n 0, 1)) rfl ?_
  refine g_dup (by decide +kernel : decode prog_2_method_3_code 59 = .ok (.dup, 1)) rfl ?_
  refine g_getI (by decide +kernel : decode prog_2_method_3_code 60 = .ok (.getfield 44, 3)) fl_Ac_44.get rfl rfl ?_
  refine g_top (w := nI r) (rfl) ?_
  refine g_dup_x1 (by decide +kernel : decode prog_2_method_3_code 63 = .ok (.dup_x1, 1)) rfl rfl ?_
  refine g_iconst (v := nI 1) (by decide +kernel : decode prog_2_method_3_code 64 = .ok (.iconst 1, 1)) (by decide) ?_
  refine g_iaddN (by decide +kernel : decode prog_2_method_3_code 65 = .ok (.iadd, 1)) ?_
  refine g_putI (by decide +kernel : decode prog_2_method_3_code 66 = .ok (.putfield 44, 3)) fl_Ac_44 rfl rfl ?_
  refine g_sto (bS_r _ _ _ _ _) ?_
  refine g_iload (by decide +kernel : decode prog_2_method_3_code 69 = .ok (.iload 6, 2)) rfl ?_
  refine g_iastore (a := r) (by decide +kernel : decode prog_2_method_3_code 71 = .ok (.iastore, 1)) rfl rfl (by omega) (by decide) ?_
  refine g_sto (bS_1 _ _ _ _ _ _) ?_
  refine g_iload (by decide +kernel : decode prog_2_method_3_code 72 = .ok (.iload 4, 2)) rfl ?_
  refine g_iconst (v := nI 1) (by decide +kernel : decode prog_2_method_3_code 74 = .ok (.iconst 1, 1)) (by decide) ?_
  refine g_iaddN (by decide +kernel : decode prog_2_method_3_code 75 = .ok (.iadd, 1)) ?_
  refine g_istore (L' := [some (.ref 0), some (.int (nI 3)), some (.int (nI 1)), some (.int x), some (.int (nI d)), some (.int (nI 13)), some (.int (nI 20)), some (.int (nI (d + 1)))]) (by decide +kernel : decode prog_2_method_3_code 76 = .ok (.istore 7, 2)) (Nat.le_of_ble_eq_true rfl) rfl ?_
  refine g_iload (by decide +kernel : decode prog_2_method_3_code 78 = .ok (.iload 6, 2)) rfl ?_
  refine g_tableIn (x := nI 20) (off := 284) (tgt := 364) (by decide +kernel : decode prog_2_method_3_code 80 = .ok (.tableswitch 442 10 61 #[224, 233, 253, 268, 442, 442, 442, 442, 442, 442, 284, 442, 442, 442, 442, 442, 442, 442, 442, 442, 296, 308, 442, 442, 442, 442, 442, 442, 442, 442, 334, 346, 442, 442, 442, 442, 442, 442, 442, 442, 372, 389, 442, 442, 442, 442, 442, 442, 442, 442, 404, 416], 224)) (by decide) (by decide) rfl (by decide) ?_
  refine g_aload_n (by decide +kernel : decode prog_2_method_3_code 364 = .ok (.aload_n 0, 1)) rfl ?_
  refine g_iconst (v := nI 0) (by decide +kernel : decode prog_2_method_3_code 365 = .ok (.iconst 0, 1)) (by decide) ?_
  refine g_iconst (v := nI 1) (by decide +kernel : decode prog_2_method_3_code 366 = .ok (.iconst 1, 1)) (by decide) ?_
  refine g_iload_n (by decide +kernel : decode prog_2_method_3_code 367 = .ok (.iload_n 3, 1)) rfl ?_
  refine g_iload (by decide +kernel : decode prog_2_method_3_code 368 = .ok (.iload 7, 2)) rfl ?_
  refine g_callVI [.int (nI 0), .int (nI 1), .int x, .int (nI (d + 1))] (by decide +kernel : decode prog_2_method_3_code 370 = .ok (.invokevirtual 37, 3)) lk_Ac_37 (r_3_0_1 σ (upd B r (nI 20)) (r + 1) (x) hk hn ha (d := (d + 1)) (by omega) (by omega)) rfl rfl rfl rfl (Nat.le_of_ble_eq_true rfl) (Nat.le_of_ble_eq_true rfl) (fun r370 s370 h370 => ?_)
  obtain ⟨rfl, rfl⟩ := h370
  refine g_iconst (v := nI 5) (by decide +kernel : decode prog_2_method_3_code 373 = .ok (.iconst 5, 1)) (by decide) ?_
  refine g_iadd (by decide +kernel : decode prog_2_method_3_code 374 = .ok (.iadd, 1)) ?_
  exact g_iret hR (by decide +kernel : decode prog_2_method_3_code 375 = .ok (.ireturn, 1)) rfl ⟨_, rfl, ⟨rfl, rfl⟩⟩
set_option maxRecDepth 20000 in
theorem r_3_1_2e (σ : Store) (B : Row) (r : Nat) (x : Int32) {n a : Nat} (hk : σ 0 2 = nI 3) (hn : σ 0 3 = nI n) (ha : σ 0 4 = nI a) {d : Nat} (hd : d + 1 ≤ 12) (hr : r + 1 ≤ 30) (hn7 : n ≤ 7) (ha9 : a ≤ 9) (hna : n = a) : Ct ΛA mt_Ac_run 1 [.ref 0, .int (nI 1), .int (nI 2), .int x, .int (nI d)] (bS σ B r 0) (PF (pP n a x) (bS σ (wl B r [nI 12]) (r + 1) 1)) := by
  refine Ct.of (by decide) (Nat.le_of_ble_eq_true rfl) (fun X hR => ?_)
  show G (ΛA, mt_Ac_run, 1) X (bS σ B r 0) [some (.ref 0), some (.int (nI 1)), some (.int (nI 2)), some (.int x), some (.int (nI d)), none, none, none] [] 0
  refine g_iload_n (by decide +kernel : decode prog_2_method_3_code 0 = .ok (.iload_n 1, 1)) rfl ?_
  refine g_iconst (v := nI 4) (by decide +kernel : decode prog_2_method_3_code 1 = .ok (.iconst 4, 1)) (by decide) ?_
  refine g_imulN (by decide +kernel : decode prog_2_method_3_code 2 = .ok (.imul, 1)) ?_
  refine g_iload_n (by decide +kernel : decode prog_2_method_3_code 3 = .ok (.iload_n 2, 1)) rfl ?_
  refine g_iadd (by decide +kernel : decode prog_2_method_3_code 4 = .ok (.iadd, 1)) ?_
  refine g_top (w := nI 6) (by decide) ?_
  refine g_istore (L' := [some (.ref 0), some (.int (nI 1)), some (.int (nI 2)), some (.int x), some (.int (nI d)), some (.int (nI 6)), none, none]) (by decide +kernel : decode prog_2_method_3_code 5 = .ok (.istore 5, 2)) (Nat.le_of_ble_eq_true rfl) rfl ?_
  refine g_iload (by decide +kernel : decode prog_2_method_3_code 7 = .ok (.iload 4, 2)) rfl ?_
  refine g_bipush (v := nI 12) (by decide +kernel : decode prog_2_method_3_code 9 = .ok (.bipush 12, 2)) (by decide) ?_
  refine g_icmp_gtN (tgt := 35) (by decide +kernel : decode prog_2_method_3_code 11 = .ok (.if_icmp .gt 24, 3)) (by decide) (by omega) (by decide) (fun h => absurd h (by omega)) (fun _ => ?_)
  refine g_aload_n (by decide +kernel : decode prog_2_method_3_code 14 = .ok (.aload_n 0, 1)) rfl ?_
  refine g_getI (by decide +kernel : decode prog_2_method_3_code 15 = .ok (.getfield 15, 3)) fl_Ac_15.get rfl rfl ?_
  refine g_top (w := nI 0) (rfl) ?_
  refine g_if_neN (tgt := 35) (by decide +kernel : decode prog_2_method_3_code 18 = .ok (.ifCond .ne 17, 3)) (by decide) (by decide) (fun h => False.elim (by revert h; decide)) (fun _ => ?_)
  refine g_iload (by decide +kernel : decode prog_2_method_3_code 21 = .ok (.iload 5, 2)) rfl ?_
  refine g_if_ltN (by decide +kernel : decode prog_2_method_3_code 23 = .ok (.ifCond .lt 12, 3)) (by decide) (by decide) ?_
  refine g_iload (by decide +kernel : decode prog_2_method_3_code 26 = .ok (.iload 5, 2)) rfl ?_
  refine g_gets (j := 3) (by decide +kernel : decode prog_2_method_3_code 28 = .ok (.getstatic 41, 3)) (by decide) sl_Ac_41 ?_
  refine g_rolen (j := 3) (by decide +kernel : decode prog_2_method_3_code 31 = .ok (.arraylength, 1)) (by decide) ?_
  refine g_icmp_ltN (tgt := 37) (by decide +kernel : decode prog_2_method_3_code 32 = .ok (.if_icmp .lt 5, 3)) (by decide) (by decide) (by decide) (fun _ => ?_) (fun h => absurd (by decide) h)
  refine g_gets (j := 3) (by decide +kernel : decode prog_2_method_3_code 37 = .ok (.getstatic 41, 3)) (by decide) sl_Ac_41 ?_
  refine g_iload (by decide +kernel : decode prog_2_method_3_code 40 = .ok (.iload 5, 2)) rfl ?_
  refine g_roload (j := 3) (a := 6) (by decide +kernel : decode prog_2_method_3_code 42 = .ok (.iaload, 1)) (by decide) rfl (by decide) ?_
  refine g_top (w := nI 12) (rfl) ?_
  refine g_istore (L' := [some (.ref 0), some (.int (nI 1)), some (.int (nI 2)), some (.int x), some (.int (nI d)), some (.int (nI 6)), some (.int (nI 12)), none]) (by decide +kernel : decode prog_2_method_3_code 43 = .ok (.istore 6, 2)) (Nat.le_of_ble_eq_true rfl) rfl ?_
  refine g_aload_n (by decide +kernel : decode prog_2_method_3_code 45 = .ok (.aload_n 0, 1)) rfl ?_
  refine g_getI (by decide +kernel : decode prog_2_method_3_code 46 = .ok (.getfield 44, 3)) fl_Ac_44.get rfl rfl ?_
  refine g_top (w := nI r) (rfl) ?_
  refine g_bipush (v := nI 30) (by decide +kernel : decode prog_2_method_3_code 49 = .ok (.bipush 30, 2)) (by decide) ?_
  refine g_icmp_geN (tgt := 72) (by decide +kernel : decode prog_2_method_3_code 51 = .ok (.if_icmp .ge 21, 3)) (by decide) (by omega) (by decide) (fun h => absurd h (by omega)) (fun _ => ?_)
  refine g_aload_n (by decide +kernel : decode prog_2_method_3_code 54 = .ok (.aload_n 0, 1)) rfl ?_
  refine g_getR (by decide +kernel : decode prog_2_method_3_code 55 = .ok (.getfield 9, 3)) fl_Ac_9 rfl rfl ?_
  refine g_aload_n (by decide +kernel : decode prog_2_method_3_code 58 = .ok (.aload_n 0, 1)) rfl ?_
  refine g_dup (by decide +kernel : decode prog_2_method_3_code 59 = .ok (.dup, 1)) rfl ?_
  refine g_getI (by decide +kernel : decode prog_2_method_3_code 60 = .ok (.getfield 44, 3)) fl_Ac_44.get rfl rfl ?_
  refine g_top (w := nI r) (rfl) ?_
  refine g_dup_x1 (by decide +kernel : decode prog_2_method_3_code 63 = .ok (.dup_x1, 1)) rfl rfl ?_
  refine g_iconst (v := nI 1) (by decide +kernel : decode prog_2_method_3_code 64 = .ok (.iconst 1, 1)) (by decide) ?_
  refine g_iaddN (by decide +kernel : decode prog_2_method_3_code 65 = .ok (.iadd, 1)) ?_
  refine g_putI (by decide +kernel : decode prog_2_method_3_code 66 = .ok (.putfield 44, 3)) fl_Ac_44 rfl rfl ?_
  refine g_sto (bS_r _ _ _ _ _) ?_
  refine g_iload (by decide +kernel : decode prog_2_method_3_code 69 = .ok (.iload 6, 2)) rfl ?_
  refine g_iastore (a := r) (by decide +kernel : decode prog_2_method_3_code 71 = .ok (.iastore, 1)) rfl rfl (by omega) (by decide) ?_
  refine g_sto (bS_1 _ _ _ _ _ _) ?_
  refine g_iload (by decide +kernel : decode prog_2_method_3_code 72 = .ok (.iload 4, 2)) rfl ?_
  refine g_iconst (v := nI 1) (by decide +kernel : decode prog_2_method_3_code 74 = .ok (.iconst 1, 1)) (by decide) ?_
  refine g_iaddN (by decide +kernel : decode prog_2_method_3_code 75 = .ok (.iadd, 1)) ?_
  refine g_istore (L' := [some (.ref 0), some (.int (nI 1)), some (.int (nI 2)), some (.int x), some (.int (nI d)), some (.int (nI 6)), some (.int (nI 12)), some (.int (nI (d + 1)))]) (by decide +kernel : decode prog_2_method_3_code 76 = .ok (.istore 7, 2)) (Nat.le_of_ble_eq_true rfl) rfl ?_
  refine g_iload (by decide +kernel : decode prog_2_method_3_code 78 = .ok (.iload 6, 2)) rfl ?_
  refine g_tableIn (x := nI 12) (off := 253) (tgt := 333) (by decide +kernel : decode prog_2_method_3_code 80 = .ok (.tableswitch 442 10 61 #[224, 233, 253, 268, 442, 442, 442, 442, 442, 442, 284, 442, 442, 442, 442, 442, 442, 442, 442, 442, 296, 308, 442, 442, 442, 442, 442, 442, 442, 442, 334, 346, 442, 442, 442, 442, 442, 442, 442, 442, 372, 389, 442, 442, 442, 442, 442, 442, 442, 442, 404, 416], 224)) (by decide) (by decide) rfl (by decide) ?_
  refine g_aload_n (by decide +kernel : decode prog_2_method_3_code 333 = .ok (.aload_n 0, 1)) rfl ?_
  refine g_iload_n (by decide +kernel : decode prog_2_method_3_code 334 = .ok (.iload_n 3, 1)) rfl ?_
  refine g_aload_n (by decide +kernel : decode prog_2_method_3_code 335 = .ok (.aload_n 0, 1)) rfl ?_
  refine g_getI (by decide +kernel : decode prog_2_method_3_code 336 = .ok (.getfield 34, 3)) fl_Ac_34.get rfl rfl ?_
  refine g_top (w := nI a) (ha) ?_
  refine g_aload_n (by decide +kernel : decode prog_2_method_3_code 339 = .ok (.aload_n 0, 1)) rfl ?_
  refine g_getI (by decide +kernel : decode prog_2_method_3_code 340 = .ok (.getfield 28, 3)) fl_Ac_28.get rfl rfl ?_
  refine g_top (w := nI n) (hn) ?_
  refine g_isub (by decide +kernel : decode prog_2_method_3_code 343 = .ok (.isub, 1)) ?_
  refine g_callVI [.int x, .int ((nI a) - (nI n))] (by decide +kernel : decode prog_2_method_3_code 344 = .ok (.invokevirtual 47, 3)) lk_Ac_47 (r_quote σ (upd B r (nI 12)) (r + 1) (x) hn7 ha9 hna) rfl rfl rfl rfl (Nat.le_of_ble_eq_true rfl) (Nat.le_of_ble_eq_true rfl) (fun r344 s344 h344 => ?_)
  obtain ⟨rfl, rfl⟩ := h344
  exact g_iret hR (by decide +kernel : decode prog_2_method_3_code 347 = .ok (.ireturn, 1)) rfl ⟨_, rfl, ⟨rfl, rfl⟩⟩
set_option maxRecDepth 20000 in
theorem r_3_3_2e (σ : Store) (B : Row) (r : Nat) (x : Int32) {n a : Nat} (hk : σ 0 2 = nI 3) (hn : σ 0 3 = nI n) (ha : σ 0 4 = nI a) {d : Nat} (hd : d + 2 ≤ 12) (hr : r + 2 ≤ 30) (hn7 : n ≤ 7) (ha9 : a ≤ 9) (hna : n = a) : Ct ΛA mt_Ac_run 2 [.ref 0, .int (nI 3), .int (nI 2), .int x, .int (nI d)] (bS σ B r 0) (PF ((pP n a (x + nI a)) * nI 2) (bS σ (wl B r [nI 50, nI 12]) (r + 2) 1)) := by
  refine Ct.of (by decide) (Nat.le_of_ble_eq_true rfl) (fun X hR => ?_)
  show G (ΛA, mt_Ac_run, 2) X (bS σ B r 0) [some (.ref 0), some (.int (nI 3)), some (.int (nI 2)), some (.int x), some (.int (nI d)), none, none, none] [] 0
  refine g_iload_n (by decide +kernel : decode prog_2_method_3_code 0 = .ok (.iload_n 1, 1)) rfl ?_
  refine g_iconst (v := nI 4) (by decide +kernel : decode prog_2_method_3_code 1 = .ok (.iconst 4, 1)) (by decide) ?_
  refine g_imulN (by decide +kernel : decode prog_2_method_3_code 2 = .ok (.imul, 1)) ?_
  refine g_iload_n (by decide +kernel : decode prog_2_method_3_code 3 = .ok (.iload_n 2, 1)) rfl ?_
  refine g_iadd (by decide +kernel : decode prog_2_method_3_code 4 = .ok (.iadd, 1)) ?_
  refine g_top (w := nI 14) (by decide) ?_
  refine g_istore (L' := [some (.ref 0), some (.int (nI 3)), some (.int (nI 2)), some (.int x), some (.int (nI d)), some (.int (nI 14)), none, none]) (by decide +kernel : decode prog_2_method_3_code 5 = .ok (.istore 5, 2)) (Nat.le_of_ble_eq_true rfl) rfl ?_
  refine g_iload (by decide +kernel : decode prog_2_method_3_code 7 = .ok (.iload 4, 2)) rfl ?_
  refine g_bipush (v := nI 12) (by decide +kernel : decode prog_2_method_3_code 9 = .ok (.bipush 12, 2)) (by decide) ?_
  refine g_icmp_gtN (tgt := 35) (by decide +kernel : decode prog_2_method_3_code 11 = .ok (.if_icmp .gt 24, 3)) (by decide) (by omega) (by decide) (fun h => absurd h (by omega)) (fun _ => ?_)
  refine g_aload_n (by decide +kernel : decode prog_2_method_3_code 14 = .ok (.aload_n 0, 1)) rfl ?_
  refine g_getI (by decide +kernel : decode prog_2_method_3_code 15 = .ok (.getfield 15, 3)) fl_Ac_15.get rfl rfl ?_
  refine g_top (w := nI 0) (rfl) ?_
  refine g_if_neN (tgt := 35) (by decide +kernel : decode prog_2_method_3_code 18 = .ok (.ifCond .ne 17, 3)) (by decide) (by decide) (fun h => False.elim (by revert h; decide)) (fun _ => ?_)
  refine g_iload (by decide +kernel : decode prog_2_method_3_code 21 = .ok (.iload 5, 2)) rfl ?_
  refine g_if_ltN (by decide +kernel : decode prog_2_method_3_code 23 = .ok (.ifCond .lt 12, 3)) (by decide) (by decide) ?_
  refine g_iload (by decide +kernel : decode prog_2_method_3_code 26 = .ok (.iload 5, 2)) rfl ?_
  refine g_gets (j := 3) (by decide +kernel : decode prog_2_method_3_code 28 = .ok (.getstatic 41, 3)) (by decide) sl_Ac_41 ?_
  refine g_rolen (j := 3) (by decide +kernel : decode prog_2_method_3_code 31 = .ok (.arraylength, 1)) (by decide) ?_
  refine g_icmp_ltN (tgt := 37) (by decide +kernel : decode prog_2_method_3_code 32 = .ok (.if_icmp .lt 5, 3)) (by decide) (by decide) (by decide) (fun _ => ?_) (fun h => absurd (by decide) h)
  refine g_gets (j := 3) (by decide +kernel : decode prog_2_method_3_code 37 = .ok (.getstatic 41, 3)) (by decide) sl_Ac_41 ?_
  refine g_iload (by decide +kernel : decode prog_2_method_3_code 40 = .ok (.iload 5, 2)) rfl ?_
  refine g_roload (j := 3) (a := 14) (by decide +kernel : decode prog_2_method_3_code 42 = .ok (.iaload, 1)) (by decide) rfl (by decide) ?_
  refine g_top (w := nI 50) (rfl) ?_
  refine g_istore (L' := [some (.ref 0), some (.int (nI 3)), some (.int (nI 2)), some (.int x), some (.int (nI d)), some (.int (nI 14)), some (.int (nI 50)), none]) (by decide +kernel : decode prog_2_method_3_code 43 = .ok (.istore 6, 2)) (Nat.le_of_ble_eq_true rfl) rfl ?_
  refine g_aload_n (by decide +kernel : decode prog_2_method_3_code 45 = .ok (.aload_n 0, 1)) rfl ?_
  refine g_getI (by decide +kernel : decode prog_2_method_3_code 46 = .ok (.getfield 44, 3)) fl_Ac_44.get rfl rfl ?_
  refine g_top (w := nI r) (rfl) ?_
  refine g_bipush (v := nI 30) (by decide +kernel : decode prog_2_method_3_code 49 = .ok (.bipush 30, 2)) (by decide) ?_
  refine g_icmp_geN (tgt := 72) (by decide +kernel : decode prog_2_method_3_code 51 = .ok (.if_icmp .ge 21, 3)) (by decide) (by omega) (by decide) (fun h => absurd h (by omega)) (fun _ => ?_)
  refine g_aload_n (by decide +kernel : decode prog_2_method_3_code 54 = .ok (.aload_n 0, 1)) rfl ?_
  refine g_getR (by decide +kernel : decode prog_2_method_3_code 55 = .ok (.getfield 9, 3)) fl_Ac_9 rfl rfl ?_
  refine g_aload_n (by decide +kernel : decode prog_2_method_3_code 58 = .ok (.aload_n 0, 1)) rfl ?_
  refine g_dup (by decide +kernel : decode prog_2_method_3_code 59 = .ok (.dup, 1)) rfl ?_
  refine g_getI (by decide +kernel : decode prog_2_method_3_code 60 = .ok (.getfield 44, 3)) fl_Ac_44.get rfl rfl ?_
  refine g_top (w := nI r) (rfl) ?_
  refine g_dup_x1 (by decide +kernel : decode prog_2_method_3_code 63 = .ok (.dup_x1, 1)) rfl rfl ?_
  refine g_iconst (v := nI 1) (by decide +kernel : decode prog_2_method_3_code 64 = .ok (.iconst 1, 1)) (by decide) ?_
  refine g_iaddN (by decide +kernel : decode prog_2_method_3_code 65 = .ok (.iadd, 1)) ?_
  refine g_putI (by decide +kernel : decode prog_2_method_3_code 66 = .ok (.putfield 44, 3)) fl_Ac_44 rfl rfl ?_
  refine g_sto (bS_r _ _ _ _ _) ?_
  refine g_iload (by decide +kernel : decode prog_2_method_3_code 69 = .ok (.iload 6, 2)) rfl ?_
  refine g_iastore (a := r) (by decide +kernel : decode prog_2_method_3_code 71 = .ok (.iastore, 1)) rfl rfl (by omega) (by decide) ?_
  refine g_sto (bS_1 _ _ _ _ _ _) ?_
  refine g_iload (by decide +kernel : decode prog_2_method_3_code 72 = .ok (.iload 4, 2)) rfl ?_
  refine g_iconst (v := nI 1) (by decide +kernel : decode prog_2_method_3_code 74 = .ok (.iconst 1, 1)) (by decide) ?_
  refine g_iaddN (by decide +kernel : decode prog_2_method_3_code 75 = .ok (.iadd, 1)) ?_
  refine g_istore (L' := [some (.ref 0), some (.int (nI 3)), some (.int (nI 2)), some (.int x), some (.int (nI d)), some (.int (nI 14)), some (.int (nI 50)), some (.int (nI (d + 1)))]) (by decide +kernel : decode prog_2_method_3_code 76 = .ok (.istore 7, 2)) (Nat.le_of_ble_eq_true rfl) rfl ?_
  refine g_iload (by decide +kernel : decode prog_2_method_3_code 78 = .ok (.iload 6, 2)) rfl ?_
  refine g_tableIn (x := nI 50) (off := 372) (tgt := 452) (by decide +kernel : decode prog_2_method_3_code 80 = .ok (.tableswitch 442 10 61 #[224, 233, 253, 268, 442, 442, 442, 442, 442, 442, 284, 442, 442, 442, 442, 442, 442, 442, 442, 442, 296, 308, 442, 442, 442, 442, 442, 442, 442, 442, 334, 346, 442, 442, 442, 442, 442, 442, 442, 442, 372, 389, 442, 442, 442, 442, 442, 442, 442, 442, 404, 416], 224)) (by decide) (by decide) rfl (by decide) ?_
  refine g_aload_n (by decide +kernel : decode prog_2_method_3_code 452 = .ok (.aload_n 0, 1)) rfl ?_
  refine g_iconst (v := nI 1) (by decide +kernel : decode prog_2_method_3_code 453 = .ok (.iconst 1, 1)) (by decide) ?_
  refine g_iconst (v := nI 2) (by decide +kernel : decode prog_2_method_3_code 454 = .ok (.iconst 2, 1)) (by decide) ?_
  refine g_iload_n (by decide +kernel : decode prog_2_method_3_code 455 = .ok (.iload_n 3, 1)) rfl ?_
  refine g_aload_n (by decide +kernel : decode prog_2_method_3_code 456 = .ok (.aload_n 0, 1)) rfl ?_
  refine g_getI (by decide +kernel : decode prog_2_method_3_code 457 = .ok (.getfield 34, 3)) fl_Ac_34.get rfl rfl ?_
  refine g_top (w := nI a) (ha) ?_
  refine g_iadd (by decide +kernel : decode prog_2_method_3_code 460 = .ok (.iadd, 1)) ?_
  refine g_iload (by decide +kernel : decode prog_2_method_3_code 461 = .ok (.iload 7, 2)) rfl ?_
  refine g_callVI [.int (nI 1), .int (nI 2), .int (x + (nI a)), .int (nI (d + 1))] (by decide +kernel : decode prog_2_method_3_code 463 = .ok (.invokevirtual 37, 3)) lk_Ac_37 (r_3_1_2e σ (upd B r (nI 50)) (r + 1) (x + (nI a)) hk hn ha (d := (d + 1)) (by omega) (by omega) hn7 ha9 hna) rfl rfl rfl rfl (Nat.le_of_ble_eq_true rfl) (Nat.le_of_ble_eq_true rfl) (fun r463 s463 h463 => ?_)
  obtain ⟨rfl, rfl⟩ := h463
  refine g_iconst (v := nI 2) (by decide +kernel : decode prog_2_method_3_code 466 = .ok (.iconst 2, 1)) (by decide) ?_
  refine g_imul (by decide +kernel : decode prog_2_method_3_code 467 = .ok (.imul, 1)) ?_
  exact g_iret hR (by decide +kernel : decode prog_2_method_3_code 468 = .ok (.ireturn, 1)) rfl ⟨_, rfl, ⟨rfl, rfl⟩⟩
set_option maxRecDepth 20000 in
theorem r_3_1_2d (σ : Store) (B : Row) (r : Nat) (x : Int32) {n a : Nat} (hk : σ 0 2 = nI 3) (hn : σ 0 3 = nI n) (ha : σ 0 4 = nI a) {d : Nat} (hd : d + 1 ≤ 12) (hr : r + 1 ≤ 30) (hn7 : n ≤ 7) (ha9 : a ≤ 9) (hna : n ≠ a) : Ct ΛA mt_Ac_run 1 [.ref 0, .int (nI 1), .int (nI 2), .int x, .int (nI d)] (bS σ B r 0) (PF (pP n a x) (bS σ (wl B r [nI 12]) (r + 1) 0)) := by
  refine Ct.of (by decide) (Nat.le_of_ble_eq_true rfl) (fun X hR => ?_)
  show G (ΛA, mt_Ac_run, 1) X (bS σ B r 0) [some (.ref 0), some (.int (nI 1)), some (.int (nI 2)), some (.int x), some (.int (nI d)), none, none, none] [] 0
  refine g_iload_n (by decide +kernel : decode prog_2_method_3_code 0 = .ok (.iload_n 1, 1)) rfl ?_
  refine g_iconst (v := nI 4) (by decide +kernel : decode prog_2_method_3_code 1 = .ok (.iconst 4, 1)) (by decide) ?_
  refine g_imulN (by decide +kernel : decode prog_2_method_3_code 2 = .ok (.imul, 1)) ?_
  refine g_iload_n (by decide +kernel : decode prog_2_method_3_code 3 = .ok (.iload_n 2, 1)) rfl ?_
  refine g_iadd (by decide +kernel : decode prog_2_method_3_code 4 = .ok (.iadd, 1)) ?_
  refine g_top (w := nI 6) (by decide) ?_
  refine g_istore (L' := [some (.ref 0), some (.int (nI 1)), some (.int (nI 2)), some (.int x), some (.int (nI d)), some (.int (nI 6)), none, none]) (by decide +kernel : decode prog_2_method_3_code 5 = .ok (.istore 5, 2)) (Nat.le_of_ble_eq_true rfl) rfl ?_
  refine g_iload (by decide +kernel : decode prog_2_method_3_code 7 = .ok (.iload 4, 2)) rfl ?_
  refine g_bipush (v := nI 12) (by decide +kernel : decode prog_2_method_3_code 9 = .ok (.bipush 12, 2)) (by decide) ?_
  refine g_icmp_gtN (tgt := 35) (by decide +kernel : decode prog_2_method_3_code 11 = .ok (.if_icmp .gt 24, 3)) (by decide) (by omega) (by decide) (fun h => absurd h (by omega)) (fun _ => ?_)
  refine g_aload_n (by decide +kernel : decode prog_2_method_3_code 14 = .ok (.aload_n 0, 1)) rfl ?_
  refine g_getI (by decide +kernel : decode prog_2_method_3_code 15 = .ok (.getfield 15, 3)) fl_Ac_15.get rfl rfl ?_
  refine g_top (w := nI 0) (rfl) ?_
  refine g_if_neN (tgt := 35) (by decide +kernel : decode prog_2_method_3_code 18 = .ok (.ifCond .ne 17, 3)) (by decide) (by decide) (fun h => False.elim (by revert h; decide)) (fun _ => ?_)
  refine g_iload (by decide +kernel : decode prog_2_method_3_code 21 = .ok (.iload 5, 2)) rfl ?_
  refine g_if_ltN (by decide +kernel : decode prog_2_method_3_code 23 = .ok (.ifCond .lt 12, 3)) (by decide) (by decide) ?_
  refine g_iload (by decide +kernel : decode prog_2_method_3_code 26 = .ok (.iload 5, 2)) rfl ?_
  refine g_gets (j := 3) (by decide +kernel : decode prog_2_method_3_code 28 = .ok (.getstatic 41, 3)) (by decide) sl_Ac_41 ?_
  refine g_rolen (j := 3) (by decide +kernel : decode prog_2_method_3_code 31 = .ok (.arraylength, 1)) (by decide) ?_
  refine g_icmp_ltN (tgt := 37) (by decide +kernel : decode prog_2_method_3_code 32 = .ok (.if_icmp .lt 5, 3)) (by decide) (by decide) (by decide) (fun _ => ?_) (fun h => absurd (by decide) h)
  refine g_gets (j := 3) (by decide +kernel : decode prog_2_method_3_code 37 = .ok (.getstatic 41, 3)) (by decide) sl_Ac_41 ?_
  refine g_iload (by decide +kernel : decode prog_2_method_3_code 40 = .ok (.iload 5, 2)) rfl ?_
  refine g_roload (j := 3) (a := 6) (by decide +kernel : decode prog_2_method_3_code 42 = .ok (.iaload, 1)) (by decide) rfl (by decide) ?_
  refine g_top (w := nI 12) (rfl) ?_
  refine g_istore (L' := [some (.ref 0), some (.int (nI 1)), some (.int (nI 2)), some (.int x), some (.int (nI d)), some (.int (nI 6)), some (.int (nI 12)), none]) (by decide +kernel : decode prog_2_method_3_code 43 = .ok (.istore 6, 2)) (Nat.le_of_ble_eq_true rfl) rfl ?_
  refine g_aload_n (by decide +kernel : decode prog_2_method_3_code 45 = .ok (.aload_n 0, 1)) rfl ?_
  refine g_getI (by decide +kernel : decode prog_2_method_3_code 46 = .ok (.getfield 44, 3)) fl_Ac_44.get rfl rfl ?_
  refine g_top (w := nI r) (rfl) ?_
  refine g_bipush (v := nI 30) (by decide +kernel : decode prog_2_method_3_code 49 = .ok (.bipush 30, 2)) (by decide) ?_
  refine g_icmp_geN (tgt := 72) (by decide +kernel : decode prog_2_method_3_code 51 = .ok (.if_icmp .ge 21, 3)) (by decide) (by omega) (by decide) (fun h => absurd h (by omega)) (fun _ => ?_)
  refine g_aload_n (by decide +kernel : decode prog_2_method_3_code 54 = .ok (.aload_n 0, 1)) rfl ?_
  refine g_getR (by decide +kernel : decode prog_2_method_3_code 55 = .ok (.getfield 9, 3)) fl_Ac_9 rfl rfl ?_
  refine g_aload_n (by decide +kernel : decode prog_2_method_3_code 58 = .ok (.aload_n 0, 1)) rfl ?_
  refine g_dup (by decide +kernel : decode prog_2_method_3_code 59 = .ok (.dup, 1)) rfl ?_
  refine g_getI (by decide +kernel : decode prog_2_method_3_code 60 = .ok (.getfield 44, 3)) fl_Ac_44.get rfl rfl ?_
  refine g_top (w := nI r) (rfl) ?_
  refine g_dup_x1 (by decide +kernel : decode prog_2_method_3_code 63 = .ok (.dup_x1, 1)) rfl rfl ?_
  refine g_iconst (v := nI 1) (by decide +kernel : decode prog_2_method_3_code 64 = .ok (.iconst 1, 1)) (by decide) ?_
  refine g_iaddN (by decide +kernel : decode prog_2_method_3_code 65 = .ok (.iadd, 1)) ?_
  refine g_putI (by decide +kernel : decode prog_2_method_3_code 66 = .ok (.putfield 44, 3)) fl_Ac_44 rfl rfl ?_
  refine g_sto (bS_r _ _ _ _ _) ?_
  refine g_iload (by decide +kernel : decode prog_2_method_3_code 69 = .ok (.iload 6, 2)) rfl ?_
  refine g_iastore (a := r) (by decide +kernel : decode prog_2_method_3_code 71 = .ok (.iastore, 1)) rfl rfl (by omega) (by decide) ?_
  refine g_sto (bS_1 _ _ _ _ _ _) ?_
  refine g_iload (by decide +kernel : decode prog_2_method_3_code 72 = .ok (.iload 4, 2)) rfl ?_
  refine g_iconst (v := nI 1) (by decide +kernel : decode prog_2_method_3_code 74 = .ok (.iconst 1, 1)) (by decide) ?_
  refine g_iaddN (by decide +kernel : decode prog_2_method_3_code 75 = .ok (.iadd, 1)) ?_
  refine g_istore (L' := [some (.ref 0), some (.int (nI 1)), some (.int (nI 2)), some (.int x), some (.int (nI d)), some (.int (nI 6)), some (.int (nI 12)), some (.int (nI (d + 1)))]) (by decide +kernel : decode prog_2_method_3_code 76 = .ok (.istore 7, 2)) (Nat.le_of_ble_eq_true rfl) rfl ?_
  refine g_iload (by decide +kernel : decode prog_2_method_3_code 78 = .ok (.iload 6, 2)) rfl ?_
  refine g_tableIn (x := nI 12) (off := 253) (tgt := 333) (by decide +kernel : decode prog_2_method_3_code 80 = .ok (.tableswitch 442 10 61 #[224, 233, 253, 268, 442, 442, 442, 442, 442, 442, 284, 442, 442, 442, 442, 442, 442, 442, 442, 442, 296, 308, 442, 442, 442, 442, 442, 442, 442, 442, 334, 346, 442, 442, 442, 442, 442, 442, 442, 442, 372, 389, 442, 442, 442, 442, 442, 442, 442, 442, 404, 416], 224)) (by decide) (by decide) rfl (by decide) ?_
  refine g_aload_n (by decide +kernel : decode prog_2_method_3_code 333 = .ok (.aload_n 0, 1)) rfl ?_
  refine g_iload_n (by decide +kernel : decode prog_2_method_3_code 334 = .ok (.iload_n 3, 1)) rfl ?_
  refine g_aload_n (by decide +kernel : decode prog_2_method_3_code 335 = .ok (.aload_n 0, 1)) rfl ?_
  refine g_getI (by decide +kernel : decode prog_2_method_3_code 336 = .ok (.getfield 34, 3)) fl_Ac_34.get rfl rfl ?_
  refine g_top (w := nI a) (ha) ?_
  refine g_aload_n (by decide +kernel : decode prog_2_method_3_code 339 = .ok (.aload_n 0, 1)) rfl ?_
  refine g_getI (by decide +kernel : decode prog_2_method_3_code 340 = .ok (.getfield 28, 3)) fl_Ac_28.get rfl rfl ?_
  refine g_top (w := nI n) (hn) ?_
  refine g_isub (by decide +kernel : decode prog_2_method_3_code 343 = .ok (.isub, 1)) ?_
  refine g_callVI [.int x, .int ((nI a) - (nI n))] (by decide +kernel : decode prog_2_method_3_code 344 = .ok (.invokevirtual 47, 3)) lk_Ac_47 (r_quotd σ (upd B r (nI 12)) (r + 1) (x) hn7 ha9 hna) rfl rfl rfl rfl (Nat.le_of_ble_eq_true rfl) (Nat.le_of_ble_eq_true rfl) (fun r344 s344 h344 => ?_)
  obtain ⟨rfl, rfl⟩ := h344
  exact g_iret hR (by decide +kernel : decode prog_2_method_3_code 347 = .ok (.ireturn, 1)) rfl ⟨_, rfl, ⟨rfl, rfl⟩⟩
set_option maxRecDepth 20000 in
theorem r_3_3_2d (σ : Store) (B : Row) (r : Nat) (x : Int32) {n a : Nat} (hk : σ 0 2 = nI 3) (hn : σ 0 3 = nI n) (ha : σ 0 4 = nI a) {d : Nat} (hd : d + 2 ≤ 12) (hr : r + 2 ≤ 30) (hn7 : n ≤ 7) (ha9 : a ≤ 9) (hna : n ≠ a) : Ct ΛA mt_Ac_run 2 [.ref 0, .int (nI 3), .int (nI 2), .int x, .int (nI d)] (bS σ B r 0) (PF ((pP n a (x + nI a)) * nI 2) (bS σ (wl B r [nI 50, nI 12]) (r + 2) 0)) := by
  refine Ct.of (by decide) (Nat.le_of_ble_eq_true rfl) (fun X hR => ?_)
  show G (ΛA, mt_Ac_run, 2) X (bS σ B r 0) [some (.ref 0), some (.int (nI 3)), some (.int (nI 2)), some (.int x), some (.int (nI d)), none, none, none] [] 0
  refine g_iload_n (by decide +kernel : decode prog_2_method_3_code 0 = .ok (.iload_n 1, 1)) rfl ?_
  refine g_iconst (v := nI 4) (by decide +kernel : decode prog_2_method_3_code 1 = .ok (.iconst 4, 1)) (by decide) ?_
  refine g_imulN (by decide +kernel : decode prog_2_method_3_code 2 = .ok (.imul, 1)) ?_
  refine g_iload_n (by decide +kernel : decode prog_2_method_3_code 3 = .ok (.iload_n 2, 1)) rfl ?_
  refine g_iadd (by decide +kernel : decode prog_2_method_3_code 4 = .ok (.iadd, 1)) ?_
  refine g_top (w := nI 14) (by decide) ?_
  refine g_istore (L' := [some (.ref 0), some (.int (nI 3)), some (.int (nI 2)), some (.int x), some (.int (nI d)), some (.int (nI 14)), none, none]) (by decide +kernel : decode prog_2_method_3_code 5 = .ok (.istore 5, 2)) (Nat.le_of_ble_eq_true rfl) rfl ?_
  refine g_iload (by decide +kernel : decode prog_2_method_3_code 7 = .ok (.iload 4, 2)) rfl ?_
  refine g_bipush (v := nI 12) (by decide +kernel : decode prog_2_method_3_code 9 = .ok (.bipush 12, 2)) (by decide) ?_
  refine g_icmp_gtN (tgt := 35) (by decide +kernel : decode prog_2_method_3_code 11 = .ok (.if_icmp .gt 24, 3)) (by decide) (by omega) (by decide) (fun h => absurd h (by omega)) (fun _ => ?_)
  refine g_aload_n (by decide +kernel : decode prog_2_method_3_code 14 = .ok (.aload_n 0, 1)) rfl ?_
  refine g_getI (by decide +kernel : decode prog_2_method_3_code 15 = .ok (.getfield 15, 3)) fl_Ac_15.get rfl rfl ?_
  refine g_top (w := nI 0) (rfl) ?_
  refine g_if_neN (tgt := 35) (by decide +kernel : decode prog_2_method_3_code 18 = .ok (.ifCond .ne 17, 3)) (by decide) (by decide) (fun h => False.elim (by revert h; decide)) (fun _ => ?_)
  refine g_iload (by decide +kernel : decode prog_2_method_3_code 21 = .ok (.iload 5, 2)) rfl ?_
  refine g_if_ltN (by decide +kernel : decode prog_2_method_3_code 23 = .ok (.ifCond .lt 12, 3)) (by decide) (by decide) ?_
  refine g_iload (by decide +kernel : decode prog_2_method_3_code 26 = .ok (.iload 5, 2)) rfl ?_
  refine g_gets (j := 3) (by decide +kernel : decode prog_2_method_3_code 28 = .ok (.getstatic 41, 3)) (by decide) sl_Ac_41 ?_
  refine g_rolen (j := 3) (by decide +kernel : decode prog_2_method_3_code 31 = .ok (.arraylength, 1)) (by decide) ?_
  refine g_icmp_ltN (tgt := 37) (by decide +kernel : decode prog_2_method_3_code 32 = .ok (.if_icmp .lt 5, 3)) (by decide) (by decide) (by decide) (fun _ => ?_) (fun h => absurd (by decide) h)
  refine g_gets (j := 3) (by decide +kernel : decode prog_2_method_3_code 37 = .ok (.getstatic 41, 3)) (by decide) sl_Ac_41 ?_
  refine g_iload (by decide +kernel : decode prog_2_method_3_code 40 = .ok (.iload 5, 2)) rfl ?_
  refine g_roload (j := 3) (a := 14) (by decide +kernel : decode prog_2_method_3_code 42 = .ok (.iaload, 1)) (by decide) rfl (by decide) ?_
  refine g_top (w := nI 50) (rfl) ?_
  refine g_istore (L' := [some (.ref 0), some (.int (nI 3)), some (.int (nI 2)), some (.int x), some (.int (nI d)), some (.int (nI 14)), some (.int (nI 50)), none]) (by decide +kernel : decode prog_2_method_3_code 43 = .ok (.istore 6, 2)) (Nat.le_of_ble_eq_true rfl) rfl ?_
  refine g_aload_n (by decide +kernel : decode prog_2_method_3_code 45 = .ok (.aload_n 0, 1)) rfl ?_
  refine g_getI (by decide +kernel : decode prog_2_method_3_code 46 = .ok (.getfield 44, 3)) fl_Ac_44.get rfl rfl ?_
  refine g_top (w := nI r) (rfl) ?_
  refine g_bipush (v := nI 30) (by decide +kernel : decode prog_2_method_3_code 49 = .ok (.bipush 30, 2)) (by decide) ?_
  refine g_icmp_geN (tgt := 72) (by decide +kernel : decode prog_2_method_3_code 51 = .ok (.if_icmp .ge 21, 3)) (by decide) (by omega) (by decide) (fun h => absurd h (by omega)) (fun _ => ?_)
  refine g_aload_n (by decide +kernel : decode prog_2_method_3_code 54 = .ok (.aload_n 0, 1)) rfl ?_
  refine g_getR (by decide +kernel : decode prog_2_method_3_code 55 = .ok (.getfield 9, 3)) fl_Ac_9 rfl rfl ?_
  refine g_aload_n (by decide +kernel : decode prog_2_method_3_code 58 = .ok (.aload_n 0, 1)) rfl ?_
  refine g_dup (by decide +kernel : decode prog_2_method_3_code 59 = .ok (.dup, 1)) rfl ?_
  refine g_getI (by decide +kernel : decode prog_2_method_3_code 60 = .ok (.getfield 44, 3)) fl_Ac_44.get rfl rfl ?_
  refine g_top (w := nI r) (rfl) ?_
  refine g_dup_x1 (by decide +kernel : decode prog_2_method_3_code 63 = .ok (.dup_x1, 1)) rfl rfl ?_
  refine g_iconst (v := nI 1) (by decide +kernel : decode prog_2_method_3_code 64 = .ok (.iconst 1, 1)) (by decide) ?_
  refine g_iaddN (by decide +kernel : decode prog_2_method_3_code 65 = .ok (.iadd, 1)) ?_
  refine g_putI (by decide +kernel : decode prog_2_method_3_code 66 = .ok (.putfield 44, 3)) fl_Ac_44 rfl rfl ?_
  refine g_sto (bS_r _ _ _ _ _) ?_
  refine g_iload (by decide +kernel : decode prog_2_method_3_code 69 = .ok (.iload 6, 2)) rfl ?_
  refine g_iastore (a := r) (by decide +kernel : decode prog_2_method_3_code 71 = .ok (.iastore, 1)) rfl rfl (by omega) (by decide) ?_
  refine g_sto (bS_1 _ _ _ _ _ _) ?_
  refine g_iload (by decide +kernel : decode prog_2_method_3_code 72 = .ok (.iload 4, 2)) rfl ?_
  refine g_iconst (v := nI 1) (by decide +kernel : decode prog_2_method_3_code 74 = .ok (.iconst 1, 1)) (by decide) ?_
  refine g_iaddN (by decide +kernel : decode prog_2_method_3_code 75 = .ok (.iadd, 1)) ?_
  refine g_istore (L' := [some (.ref 0), some (.int (nI 3)), some (.int (nI 2)), some (.int x), some (.int (nI d)), some (.int (nI 14)), some (.int (nI 50)), some (.int (nI (d + 1)))]) (by decide +kernel : decode prog_2_method_3_code 76 = .ok (.istore 7, 2)) (Nat.le_of_ble_eq_true rfl) rfl ?_
  refine g_iload (by decide +kernel : decode prog_2_method_3_code 78 = .ok (.iload 6, 2)) rfl ?_
  refine g_tableIn (x := nI 50) (off := 372) (tgt := 452) (by decide +kernel : decode prog_2_method_3_code 80 = .ok (.tableswitch 442 10 61 #[224, 233, 253, 268, 442, 442, 442, 442, 442, 442, 284, 442, 442, 442, 442, 442, 442, 442, 442, 442, 296, 308, 442, 442, 442, 442, 442, 442, 442, 442, 334, 346, 442, 442, 442, 442, 442, 442, 442, 442, 372, 389, 442, 442, 442, 442, 442, 442, 442, 442, 404, 416], 224)) (by decide) (by decide) rfl (by decide) ?_
  refine g_aload_n (by decide +kernel : decode prog_2_method_3_code 452 = .ok (.aload_n 0, 1)) rfl ?_
  refine g_iconst (v := nI 1) (by decide +kernel : decode prog_2_method_3_code 453 = .ok (.iconst 1, 1)) (by decide) ?_
  refine g_iconst (v := nI 2) (by decide +kernel : decode prog_2_method_3_code 454 = .ok (.iconst 2, 1)) (by decide) ?_
  refine g_iload_n (by decide +kernel : decode prog_2_method_3_code 455 = .ok (.iload_n 3, 1)) rfl ?_
  refine g_aload_n (by decide +kernel : decode prog_2_method_3_code 456 = .ok (.aload_n 0, 1)) rfl ?_
  refine g_getI (by decide +kernel : decode prog_2_method_3_code 457 = .ok (.getfield 34, 3)) fl_Ac_34.get rfl rfl ?_
  refine g_top (w := nI a) (ha) ?_
  refine g_iadd (by decide +kernel : decode prog_2_method_3_code 460 = .ok (.iadd, 1)) ?_
  refine g_iload (by decide +kernel : decode prog_2_method_3_code 461 = .ok (.iload 7, 2)) rfl ?_
  refine g_callVI [.int (nI 1), .int (nI 2), .int (x + (nI a)), .int (nI (d + 1))] (by decide +kernel : decode prog_2_method_3_code 463 = .ok (.invokevirtual 37, 3)) lk_Ac_37 (r_3_1_2d σ (upd B r (nI 50)) (r + 1) (x + (nI a)) hk hn ha (d := (d + 1)) (by omega) (by omega) hn7 ha9 hna) rfl rfl rfl rfl (Nat.le_of_ble_eq_true rfl) (Nat.le_of_ble_eq_true rfl) (fun r463 s463 h463 => ?_)
  obtain ⟨rfl, rfl⟩ := h463
  refine g_iconst (v := nI 2) (by decide +kernel : decode prog_2_method_3_code 466 = .ok (.iconst 2, 1)) (by decide) ?_
  refine g_imul (by decide +kernel : decode prog_2_method_3_code 467 = .ok (.imul, 1)) ?_
  exact g_iret hR (by decide +kernel : decode prog_2_method_3_code 468 = .ok (.ireturn, 1)) rfl ⟨_, rfl, ⟨rfl, rfl⟩⟩
set_option maxRecDepth 20000 in
theorem r_3_3_3 (σ : Store) (B : Row) (r : Nat) (x : Int32) {n a : Nat} (hk : σ 0 2 = nI 3) (hn : σ 0 3 = nI n) (ha : σ 0 4 = nI a) {d : Nat} (hd : d + 5 ≤ 12) (hr : r + 5 ≤ 30) : Ct ΛA mt_Ac_run 5 [.ref 0, .int (nI 3), .int (nI 3), .int x, .int (nI d)] (bS σ B r 0) (PF (((((x - nI (n * 2)) - nI n) * nI 2 - nI a) + nI 5) ^^^ nI 12) (bS σ (wl B r [nI 13, nI 20, nI 11, nI 51, nI 10]) (r + 5) 0)) := by
  refine Ct.of (by decide) (Nat.le_of_ble_eq_true rfl) (fun X hR => ?_)
  show G (ΛA, mt_Ac_run, 5) X (bS σ B r 0) [some (.ref 0), some (.int (nI 3)), some (.int (nI 3)), some (.int x), some (.int (nI d)), none, none, none] [] 0
  refine g_iload_n (by decide +kernel : decode prog_2_method_3_code 0 = .ok (.iload_n 1, 1)) rfl ?_
  refine g_iconst (v := nI 4) (by decide +kernel : decode prog_2_method_3_code 1 = .ok (.iconst 4, 1)) (by decide) ?_
  refine g_imulN (by decide +kernel : decode prog_2_method_3_code 2 = .ok (.imul, 1)) ?_
  refine g_iload_n (by decide +kernel : decode prog_2_method_3_code 3 = .ok (.iload_n 2, 1)) rfl ?_
  refine g_iadd (by decide +kernel : decode prog_2_method_3_code 4 = .ok (.iadd, 1)) ?_
  refine g_top (w := nI 15) (by decide) ?_
  refine g_istore (L' := [some (.ref 0), some (.int (nI 3)), some (.int (nI 3)), some (.int x), some (.int (nI d)), some (.int (nI 15)), none, none]) (by decide +kernel : decode prog_2_method_3_code 5 = .ok (.istore 5, 2)) (Nat.le_of_ble_eq_true rfl) rfl ?_
  refine g_iload (by decide +kernel : decode prog_2_method_3_code 7 = .ok (.iload 4, 2)) rfl ?_
  refine g_bipush (v := nI 12) (by decide +kernel : decode prog_2_method_3_code 9 = .ok (.bipush 12, 2)) (by decide) ?_
  refine g_icmp_gtN (tgt := 35) (by decide +kernel : decode prog_2_method_3_code 11 = .ok (.if_icmp .gt 24, 3)) (by decide) (by omega) (by decide) (fun h => absurd h (by omega)) (fun _ => ?_)
  refine g_aload_n (by decide +kernel : decode prog_2_method_3_code 14 = .ok (.aload_n 0, 1)) rfl ?_
  refine g_getI (by decide +kernel : decode prog_2_method_3_code 15 = .ok (.getfield 15, 3)) fl_Ac_15.get rfl rfl ?_
  refine g_top (w := nI 0) (rfl) ?_
  refine g_if_neN (tgt := 35) (by decide +kernel : decode prog_2_method_3_code 18 = .ok (.ifCond .ne 17, 3)) (by decide) (by decide) (fun h => False.elim (by revert h; decide)) (fun _ => ?_)
  refine g_iload (by decide +kernel : decode prog_2_method_3_code 21 = .ok (.iload 5, 2)) rfl ?_
  refine g_if_ltN (by decide +kernel : decode prog_2_method_3_code 23 = .ok (.ifCond .lt 12, 3)) (by decide) (by decide) ?_
  refine g_iload (by decide +kernel : decode prog_2_method_3_code 26 = .ok (.iload 5, 2)) rfl ?_
  refine g_gets (j := 3) (by decide +kernel : decode prog_2_method_3_code 28 = .ok (.getstatic 41, 3)) (by decide) sl_Ac_41 ?_
  refine g_rolen (j := 3) (by decide +kernel : decode prog_2_method_3_code 31 = .ok (.arraylength, 1)) (by decide) ?_
  refine g_icmp_ltN (tgt := 37) (by decide +kernel : decode prog_2_method_3_code 32 = .ok (.if_icmp .lt 5, 3)) (by decide) (by decide) (by decide) (fun _ => ?_) (fun h => absurd (by decide) h)
  refine g_gets (j := 3) (by decide +kernel : decode prog_2_method_3_code 37 = .ok (.getstatic 41, 3)) (by decide) sl_Ac_41 ?_
  refine g_iload (by decide +kernel : decode prog_2_method_3_code 40 = .ok (.iload 5, 2)) rfl ?_
  refine g_roload (j := 3) (a := 15) (by decide +kernel : decode prog_2_method_3_code 42 = .ok (.iaload, 1)) (by decide) rfl (by decide) ?_
  refine g_top (w := nI 13) (rfl) ?_
  refine g_istore (L' := [some (.ref 0), some (.int (nI 3)), some (.int (nI 3)), some (.int x), some (.int (nI d)), some (.int (nI 15)), some (.int (nI 13)), none]) (by decide +kernel : decode prog_2_method_3_code 43 = .ok (.istore 6, 2)) (Nat.le_of_ble_eq_true rfl) rfl ?_
  refine g_aload_n (by decide +kernel : decode prog_2_method_3_code 45 = .ok (.aload_n 0, 1)) rfl ?_
  refine g_getI (by decide +kernel : decode prog_2_method_3_code 46 = .ok (.getfield 44, 3)) fl_Ac_44.get rfl rfl ?_
  refine g_top (w := nI r) (rfl) ?_
  refine g_bipush (v := nI 30) (by decide +kernel : decode prog_2_method_3_code 49 = .ok (.bipush 30, 2)) (by decide) ?_
  refine g_icmp_geN (tgt := 72) (by decide +kernel : decode prog_2_method_3_code 51 = .ok (.if_icmp .ge 21, 3)) (by decide) (by omega) (by decide) (fun h => absurd h (by omega)) (fun _ => ?_)
  refine g_aload_n (by decide +kernel : decode prog_2_method_3_code 54 = .ok (.aload_n 0, 1)) rfl ?_
  refine g_getR (by decide +kernel : decode prog_2_method_3_code 55 = .ok (.getfield 9, 3)) fl_Ac_9 rfl rfl ?_
  refine g_aload_n (by decide +kernel : decode prog_2_method_3_code 58 = .ok (.aload_n 0, 1)) rfl ?_
  refine g_dup (by decide +kernel : decode prog_2_method_3_code 59 = .ok (.dup, 1)) rfl ?_
  refine g_getI (by decide +kernel : decode prog_2_method_3_code 60 = .ok (.getfield 44, 3)) fl_Ac_44.get rfl rfl ?_
  refine g_top (w := nI r) (rfl) ?_
  refine g_dup_x1 (by decide +kernel : decode prog_2_method_3_code 63 = .ok (.dup_x1, 1)) rfl rfl ?_
  refine g_iconst (v := nI 1) (by decide +kernel : decode prog_2_method_3_code 64 = .ok (.iconst 1, 1)) (by decide) ?_
  refine g_iaddN (by decide +kernel : decode prog_2_method_3_code 65 = .ok (.iadd, 1)) ?_
  refine g_putI (by decide +kernel : decode prog_2_method_3_code 66 = .ok (.putfield 44, 3)) fl_Ac_44 rfl rfl ?_
  refine g_sto (bS_r _ _ _ _ _) ?_
  refine g_iload (by decide +kernel : decode prog_2_method_3_code 69 = .ok (.iload 6, 2)) rfl ?_
  refine g_iastore (a := r) (by decide +kernel : decode prog_2_method_3_code 71 = .ok (.iastore, 1)) rfl rfl (by omega) (by decide) ?_
  refine g_sto (bS_1 _ _ _ _ _ _) ?_
  refine g_iload (by decide +kernel : decode prog_2_method_3_code 72 = .ok (.iload 4, 2)) rfl ?_
  refine g_iconst (v := nI 1) (by decide +kernel : decode prog_2_method_3_code 74 = .ok (.iconst 1, 1)) (by decide) ?_
  refine g_iaddN (by decide +kernel : decode prog_2_method_3_code 75 = .ok (.iadd, 1)) ?_
  refine g_istore (L' := [some (.ref 0), some (.int (nI 3)), some (.int (nI 3)), some (.int x), some (.int (nI d)), some (.int (nI 15)), some (.int (nI 13)), some (.int (nI (d + 1)))]) (by decide +kernel : decode prog_2_method_3_code 76 = .ok (.istore 7, 2)) (Nat.le_of_ble_eq_true rfl) rfl ?_
  refine g_iload (by decide +kernel : decode prog_2_method_3_code 78 = .ok (.iload 6, 2)) rfl ?_
  refine g_tableIn (x := nI 13) (off := 268) (tgt := 348) (by decide +kernel : decode prog_2_method_3_code 80 = .ok (.tableswitch 442 10 61 #[224, 233, 253, 268, 442, 442, 442, 442, 442, 442, 284, 442, 442, 442, 442, 442, 442, 442, 442, 442, 296, 308, 442, 442, 442, 442, 442, 442, 442, 442, 334, 346, 442, 442, 442, 442, 442, 442, 442, 442, 372, 389, 442, 442, 442, 442, 442, 442, 442, 442, 404, 416], 224)) (by decide) (by decide) rfl (by decide) ?_
  refine g_aload_n (by decide +kernel : decode prog_2_method_3_code 348 = .ok (.aload_n 0, 1)) rfl ?_
  refine g_aload_n (by decide +kernel : decode prog_2_method_3_code 349 = .ok (.aload_n 0, 1)) rfl ?_
  refine g_getI (by decide +kernel : decode prog_2_method_3_code 350 = .ok (.getfield 24, 3)) fl_Ac_24.get rfl rfl ?_
  refine g_top (w := nI 3) (hk) ?_
  refine g_iconst (v := nI 1) (by decide +kernel : decode prog_2_method_3_code 353 = .ok (.iconst 1, 1)) (by decide) ?_
  refine g_iload_n (by decide +kernel : decode prog_2_method_3_code 354 = .ok (.iload_n 3, 1)) rfl ?_
  refine g_iload (by decide +kernel : decode prog_2_method_3_code 355 = .ok (.iload 7, 2)) rfl ?_
  refine g_callVI [.int (nI 3), .int (nI 1), .int x, .int (nI (d + 1))] (by decide +kernel : decode prog_2_method_3_code 357 = .ok (.invokevirtual 37, 3)) lk_Ac_37 (r_3_3_1 σ (upd B r (nI 13)) (r + 1) (x) hk hn ha (d := (d + 1)) (by omega) (by omega)) rfl rfl rfl rfl (Nat.le_of_ble_eq_true rfl) (Nat.le_of_ble_eq_true rfl) (fun r357 s357 h357 => ?_)
  obtain ⟨rfl, rfl⟩ := h357
  refine g_bipush (v := nI 12) (by decide +kernel : decode prog_2_method_3_code 360 = .ok (.bipush 12, 2)) (by decide) ?_
  refine g_ixor (by decide +kernel : decode prog_2_method_3_code 362 = .ok (.ixor, 1)) ?_
  exact g_iret hR (by decide +kernel : decode prog_2_method_3_code 363 = .ok (.ireturn, 1)) rfl ⟨_, rfl, ⟨rfl, rfl⟩⟩
set_option maxRecDepth 20000 in
theorem r_4_0_0 (σ : Store) (B : Row) (r : Nat) (x : Int32) {n a : Nat} (hk : σ 0 2 = nI 4) (hn : σ 0 3 = nI n) (ha : σ 0 4 = nI a) {d : Nat} (hd : d + 1 ≤ 12) (hr : r + 1 ≤ 30) : Ct ΛA mt_Ac_run 1 [.ref 0, .int (nI 0), .int (nI 0), .int x, .int (nI d)] (bS σ B r 0) (PF (x - nI (n * 2)) (bS σ (wl B r [nI 10]) (r + 1) 0)) := by
  refine Ct.of (by decide) (Nat.le_of_ble_eq_true rfl) (fun X hR => ?_)
  show G (ΛA, mt_Ac_run, 1) X (bS σ B r 0) [some (.ref 0), some (.int (nI 0)), some (.int (nI 0)), some (.int x), some (.int (nI d)), none, none, none] [] 0
  refine g_iload_n (by decide +kernel : decode prog_2_method_3_code 0 = .ok (.iload_n 1, 1)) rfl ?_
  refine g_iconst (v := nI 4) (by decide +kernel : decode prog_2_method_3_code 1 = .ok (.iconst 4, 1)) (by decide) ?_
  refine g_imulN (by decide +kernel : decode prog_2_method_3_code 2 = .ok (.imul, 1)) ?_
  refine g_iload_n (by decide +kernel : decode prog_2_method_3_code 3 = .ok (.iload_n 2, 1)) rfl ?_
  refine g_iadd (by decide +kernel : decode prog_2_method_3_code 4 = .ok (.iadd, 1)) ?_
  refine g_top (w := nI 0) (by decide) ?_
  refine g_istore (L' := [some (.ref 0), some (.int (nI 0)), some (.int (nI 0)), some (.int x), some (.int (nI d)), some (.int (nI 0)), none, none]) (by decide +kernel : decode prog_2_method_3_code 5 = .ok (.istore 5, 2)) (Nat.le_of_ble_eq_true rfl) rfl ?_
  refine g_iload (by decide +kernel : decode prog_2_method_3_code 7 = .ok (.iload 4, 2)) rfl ?_
  refine g_bipush (v := nI 12) (by decide +kernel : decode prog_2_method_3_code 9 = .ok (.bipush 12, 2)) (by decide) ?_
  refine g_icmp_gtN (tgt := 35) (by decide +kernel : decode prog_2_method_3_code 11 = .ok (.if_icmp .gt 24, 3)) (by decide) (by omega) (by decide) (fun h => absurd h (by omega)) (fun _ => ?_)
  refine g_aload_n (by decide +kernel : decode prog_2_method_3_code 14 = .ok (.aload_n 0, 1)) rfl ?_
  refine g_getI (by decide +kernel : decode prog_2_method_3_code 15 = .ok (.getfield 15, 3)) fl_Ac_15.get rfl rfl ?_
  refine g_top (w := nI 0) (rfl) ?_
  refine g_if_neN (tgt := 35) (by decide +kernel : decode prog_2_method_3_code 18 = .ok (.ifCond .ne 17, 3)) (by decide) (by decide) (fun h => False.elim (by revert h; decide)) (fun _ => ?_)
  refine g_iload (by decide +kernel : decode prog_2_method_3_code 21 = .ok (.iload 5, 2)) rfl ?_
  refine g_if_ltN (by decide +kernel : decode prog_2_method_3_code 23 = .ok (.ifCond .lt 12, 3)) (by decide) (by decide) ?_
  refine g_iload (by decide +kernel : decode prog_2_method_3_code 26 = .ok (.iload 5, 2)) rfl ?_
  refine g_gets (j := 3) (by decide +kernel : decode prog_2_method_3_code 28 = .ok (.getstatic 41, 3)) (by decide) sl_Ac_41 ?_
  refine g_rolen (j := 3) (by decide +kernel : decode prog_2_method_3_code 31 = .ok (.arraylength, 1)) (by decide) ?_
  refine g_icmp_ltN (tgt := 37) (by decide +kernel : decode prog_2_method_3_code 32 = .ok (.if_icmp .lt 5, 3)) (by decide) (by decide) (by decide) (fun _ => ?_) (fun h => absurd (by decide) h)
  refine g_gets (j := 3) (by decide +kernel : decode prog_2_method_3_code 37 = .ok (.getstatic 41, 3)) (by decide) sl_Ac_41 ?_
  refine g_iload (by decide +kernel : decode prog_2_method_3_code 40 = .ok (.iload 5, 2)) rfl ?_
  refine g_roload (j := 3) (a := 0) (by decide +kernel : decode prog_2_method_3_code 42 = .ok (.iaload, 1)) (by decide) rfl (by decide) ?_
  refine g_top (w := nI 10) (rfl) ?_
  refine g_istore (L' := [some (.ref 0), some (.int (nI 0)), some (.int (nI 0)), some (.int x), some (.int (nI d)), some (.int (nI 0)), some (.int (nI 10)), none]) (by decide +kernel : decode prog_2_method_3_code 43 = .ok (.istore 6, 2)) (Nat.le_of_ble_eq_true rfl) rfl ?_
  refine g_aload_n (by decide +kernel : decode prog_2_method_3_code 45 = .ok (.aload_n 0, 1)) rfl ?_
  refine g_getI (by decide +kernel : decode prog_2_method_3_code 46 = .ok (.getfield 44, 3)) fl_Ac_44.get rfl rfl ?_
  refine g_top (w := nI r) (rfl) ?_
  refine g_bipush (v := nI 30) (by decide +kernel : decode prog_2_method_3_code 49 = .ok (.bipush 30, 2)) (by decide) ?_
  refine g_icmp_geN (tgt := 72) (by decide +kernel : decode prog_2_method_3_code 51 = .ok (.if_icmp .ge 21, 3)) (by decide) (by omega) (by decide) (fun h => absurd h (by omega)) (fun _ => ?_)
  refine g_aload_n (by decide +kernel : decode prog_2_method_3_code 54 = .ok (.aload_n 0, 1)) rfl ?_
  refine g_getR (by decide +kernel : decode prog_2_method_3_code 55 = .ok (.getfield 9, 3)) fl_Ac_9 rfl rfl ?_
  refine g_aload_n (by decide +kernel : decode prog_2_method_3_code 58 = .ok (.aload_n 0, 1)) rfl ?_
  refine g_dup (by decide +kernel : decode prog_2_method_3_code 59 = .ok (.dup, 1)) rfl ?_
  refine g_getI (by decide +kernel : decode prog_2_method_3_code 60 = .ok (.getfield 44, 3)) fl_Ac_44.get rfl rfl ?_
  refine g_top (w := nI r) (rfl) ?_
  refine g_dup_x1 (by decide +kernel : decode prog_2_method_3_code 63 = .ok (.dup_x1, 1)) rfl rfl ?_
  refine g_iconst (v := nI 1) (by decide +kernel : decode prog_2_method_3_code 64 = .ok (.iconst 1, 1)) (by decide) ?_
  refine g_iaddN (by decide +kernel : decode prog_2_method_3_code 65 = .ok (.iadd, 1)) ?_
  refine g_putI (by decide +kernel : decode prog_2_method_3_code 66 = .ok (.putfield 44, 3)) fl_Ac_44 rfl rfl ?_
  refine g_sto (bS_r _ _ _ _ _) ?_
  refine g_iload (by decide +kernel : decode prog_2_method_3_code 69 = .ok (.iload 6, 2)) rfl ?_
  refine g_iastore (a := r) (by decide +kernel : decode prog_2_method_3_code 71 = .ok (.iastore, 1)) rfl rfl (by omega) (by decide) ?_
  refine g_sto (bS_1 _ _ _ _ _ _) ?_
  refine g_iload (by decide +kernel : decode prog_2_method_3_code 72 = .ok (.iload 4, 2)) rfl ?_
  refine g_iconst (v := nI 1) (by decide +kernel : decode prog_2_method_3_code 74 = .ok (.iconst 1, 1)) (by decide) ?_
  refine g_iaddN (by decide +kernel : decode prog_2_method_3_code 75 = .ok (.iadd, 1)) ?_
  refine g_istore (L' := [some (.ref 0), some (.int (nI 0)), some (.int (nI 0)), some (.int x), some (.int (nI d)), some (.int (nI 0)), some (.int (nI 10)), some (.int (nI (d + 1)))]) (by decide +kernel : decode prog_2_method_3_code 76 = .ok (.istore 7, 2)) (Nat.le_of_ble_eq_true rfl) rfl ?_
  refine g_iload (by decide +kernel : decode prog_2_method_3_code 78 = .ok (.iload 6, 2)) rfl ?_
  refine g_tableIn (x := nI 10) (off := 224) (tgt := 304) (by decide +kernel : decode prog_2_method_3_code 80 = .ok (.tableswitch 442 10 61 #[224, 233, 253, 268, 442, 442, 442, 442, 442, 442, 284, 442, 442, 442, 442, 442, 442, 442, 442, 442, 296, 308, 442, 442, 442, 442, 442, 442, 442, 442, 334, 346, 442, 442, 442, 442, 442, 442, 442, 442, 372, 389, 442, 442, 442, 442, 442, 442, 442, 442, 404, 416], 224)) (by decide) (by decide) rfl (by decide) ?_
  refine g_iload_n (by decide +kernel : decode prog_2_method_3_code 304 = .ok (.iload_n 3, 1)) rfl ?_
  refine g_aload_n (by decide +kernel : decode prog_2_method_3_code 305 = .ok (.aload_n 0, 1)) rfl ?_
  refine g_getI (by decide +kernel : decode prog_2_method_3_code 306 = .ok (.getfield 28, 3)) fl_Ac_28.get rfl rfl ?_
  refine g_top (w := nI n) (hn) ?_
  refine g_iconst (v := nI 2) (by decide +kernel : decode prog_2_method_3_code 309 = .ok (.iconst 2, 1)) (by decide) ?_
  refine g_imulN (by decide +kernel : decode prog_2_method_3_code 310 = .ok (.imul, 1)) ?_
  refine g_isub (by decide +kernel : decode prog_2_method_3_code 311 = .ok (.isub, 1)) ?_
  exact g_iret hR (by decide +kernel : decode prog_2_method_3_code 312 = .ok (.ireturn, 1)) rfl ⟨_, rfl, ⟨rfl, rfl⟩⟩
set_option maxRecDepth 20000 in
theorem r_4_2_0 (σ : Store) (B : Row) (r : Nat) (x : Int32) {n a : Nat} (hk : σ 0 2 = nI 4) (hn : σ 0 3 = nI n) (ha : σ 0 4 = nI a) {d : Nat} (hd : d + 2 ≤ 12) (hr : r + 2 ≤ 30) : Ct ΛA mt_Ac_run 2 [.ref 0, .int (nI 2), .int (nI 0), .int x, .int (nI d)] (bS σ B r 0) (PF ((x - nI (n * 2)) ^^^ nI 3) (bS σ (wl B r [nI 30, nI 10]) (r + 2) 0)) := by
  refine Ct.of (by decide) (Nat.le_of_ble_eq_true rfl) (fun X hR => ?_)
  show G (ΛA, mt_Ac_run, 2) X (bS σ B r 0) [some (.ref 0), some (.int (nI 2)), some (.int (nI 0)), some (.int x), some (.int (nI d)), none, none, none] [] 0
  refine g_iload_n (by decide +kernel : decode prog_2_method_3_code 0 = .ok (.iload_n 1, 1)) rfl ?_
  refine g_iconst (v := nI 4) (by decide +kernel : decode prog_2_method_3_code 1 = .ok (.iconst 4, 1)) (by decide) ?_
  refine g_imulN (by decide +kernel : decode prog_2_method_3_code 2 = .ok (.imul, 1)) ?_
  refine g_iload_n (by decide +kernel : decode prog_2_method_3_code 3 = .ok (.iload_n 2, 1)) rfl ?_
  refine g_iadd (by decide +kernel : decode prog_2_method_3_code 4 = .ok (.iadd, 1)) ?_
  refine g_top (w := nI 8) (by decide) ?_
  refine g_istore (L' := [some (.ref 0), some (.int (nI 2)), some (.int (nI 0)), some (.int x), some (.int (nI d)), some (.int (nI 8)), none, none]) (by decide +kernel : decode prog_2_method_3_code 5 = .ok (.istore 5, 2)) (Nat.le_of_ble_eq_true rfl) rfl ?_
  refine g_iload (by decide +kernel : decode prog_2_method_3_code 7 = .ok (.iload 4, 2)) rfl ?_
  refine g_bipush (v := nI 12) (by decide +kernel : decode prog_2_method_3_code 9 = .ok (.bipush 12, 2)) (by decide) ?_
  refine g_icmp_gtN (tgt := 35) (by decide +kernel : decode prog_2_method_3_code 11 = .ok (.if_icmp .gt 24, 3)) (by decide) (by omega) (by decide) (fun h => absurd h (by omega)) (fun _ => ?_)
  refine g_aload_n (by decide +kernel : decode prog_2_method_3_code 14 = .ok (.aload_n 0, 1)) rfl ?_
  refine g_getI (by decide +kernel : decode prog_2_method_3_code 15 = .ok (.getfield 15, 3)) fl_Ac_15.get rfl rfl ?_
  refine g_top (w := nI 0) (rfl) ?_
  refine g_if_neN (tgt := 35) (by decide +kernel : decode prog_2_method_3_code 18 = .ok (.ifCond .ne 17, 3)) (by decide) (by decide) (fun h => False.elim (by revert h; decide)) (fun _ => ?_)
  refine g_iload (by decide +kernel : decode prog_2_method_3_code 21 = .ok (.iload 5, 2)) rfl ?_
  refine g_if_ltN (by decide +kernel : decode prog_2_method_3_code 23 = .ok (.ifCond .lt 12, 3)) (by decide) (by decide) ?_
  refine g_iload (by decide +kernel : decode prog_2_method_3_code 26 = .ok (.iload 5, 2)) rfl ?_
  refine g_gets (j := 3) (by decide +kernel : decode prog_2_method_3_code 28 = .ok (.getstatic 41, 3)) (by decide) sl_Ac_41 ?_
  refine g_rolen (j := 3) (by decide +kernel : decode prog_2_method_3_code 31 = .ok (.arraylength, 1)) (by decide) ?_
  refine g_icmp_ltN (tgt := 37) (by decide +kernel : decode prog_2_method_3_code 32 = .ok (.if_icmp .lt 5, 3)) (by decide) (by decide) (by decide) (fun _ => ?_) (fun h => absurd (by decide) h)
  refine g_gets (j := 3) (by decide +kernel : decode prog_2_method_3_code 37 = .ok (.getstatic 41, 3)) (by decide) sl_Ac_41 ?_
  refine g_iload (by decide +kernel : decode prog_2_method_3_code 40 = .ok (.iload 5, 2)) rfl ?_
  refine g_roload (j := 3) (a := 8) (by decide +kernel : decode prog_2_method_3_code 42 = .ok (.iaload, 1)) (by decide) rfl (by decide) ?_
  refine g_top (w := nI 30) (rfl) ?_
  refine g_istore (L' := [some (.ref 0), some (.int (nI 2)), some (.int (nI 0)), some (.int x), some (.int (nI d)), some (.int (nI 8)), some (.int (nI 30)), none]) (by decide +kernel : decode prog_2_method_3_code 43 = .ok (.istore 6, 2)) (Nat.le_of_ble_eq_true rfl) rfl ?_
  refine g_aload_n (by decide +kernel : decode prog_2_method_3_code 45 = .ok (.aload_n 0, 1)) rfl ?_
  refine g_getI (by decide +kernel : decode prog_2_method_3_code 46 = .ok (.getfield 44, 3)) fl_Ac_44.get rfl rfl ?_
  refine g_top (w := nI r) (rfl) ?_
  refine g_bipush (v := nI 30) (by decide +kernel : decode prog_2_method_3_code 49 = .ok (.bipush 30, 2)) (by decide) ?_
  refine g_icmp_geN (tgt := 72) (by decide +kernel : decode prog_2_method_3_code 51 = .ok (.if_icmp .ge 21, 3)) (by decide) (by omega) (by decide) (fun h => absurd h (by omega)) (fun _ => ?_)
  refine g_aload_n (by decide +kernel : decode prog_2_method_3_code 54 = .ok (.aload_n 0, 1)) rfl ?_
  refine g_getR (by decide +kernel : decode prog_2_method_3_code 55 = .ok (.getfield 9, 3)) fl_Ac_9 rfl rfl ?_
  refine g_aload_n (by decide +kernel : decode prog_2_method_3_code 58 = .ok (.aload_n 0, 1)) rfl ?_
  refine g_dup (by decide +kernel : decode prog_2_method_3_code 59 = .ok (.dup, 1)) rfl ?_
  refine g_getI (by decide +kernel : decode prog_2_method_3_code 60 = .ok (.getfield 44, 3)) fl_Ac_44.get rfl rfl ?_
  refine g_top (w := nI r) (rfl) ?_
  refine g_dup_x1 (by decide +kernel : decode prog_2_method_3_code 63 = .ok (.dup_x1, 1)) rfl rfl ?_
  refine g_iconst (v := nI 1) (by decide +kernel : decode prog_2_method_3_code 64 = .ok (.iconst 1, 1)) (by decide) ?_
  refine g_iaddN (by decide +kernel : decode prog_2_method_3_code 65 = .ok (.iadd, 1)) ?_
  refine g_putI (by decide +kernel : decode prog_2_method_3_code 66 = .ok (.putfield 44, 3)) fl_Ac_44 rfl rfl ?_
  refine g_sto (bS_r _ _ _ _ _) ?_
  refine g_iload (by decide +kernel : decode prog_2_method_3_code 69 = .ok (.iload 6, 2)) rfl ?_
  refine g_iastore (a := r) (by decide +kernel : decode prog_2_method_3_code 71 = .ok (.iastore, 1)) rfl rfl (by omega) (by decide) ?_
  refine g_sto (bS_1 _ _ _ _ _ _) ?_
  refine g_iload (by decide +kernel : decode prog_2_method_3_code 72 = .ok (.iload 4, 2)) rfl ?_
  refine g_iconst (v := nI 1) (by decide +kernel : decode prog_2_method_3_code 74 = .ok (.iconst 1, 1)) (by decide) ?_
  refine g_iaddN (by decide +kernel : decode prog_2_method_3_code 75 = .ok (.iadd, 1)) ?_
  refine g_istore (L' := [some (.ref 0), some (.int (nI 2)), some (.int (nI 0)), some (.int x), some (.int (nI d)), some (.int (nI 8)), some (.int (nI 30)), some (.int (nI (d + 1)))]) (by decide +kernel : decode prog_2_method_3_code 76 = .ok (.istore 7, 2)) (Nat.le_of_ble_eq_true rfl) rfl ?_
  refine g_iload (by decide +kernel : decode prog_2_method_3_code 78 = .ok (.iload 6, 2)) rfl ?_
  refine g_tableIn (x := nI 30) (off := 296) (tgt := 376) (by decide +kernel : decode prog_2_method_3_code 80 = .ok (.tableswitch 442 10 61 #[224, 233, 253, 268, 442, 442, 442, 442, 442, 442, 284, 442, 442, 442, 442, 442, 442, 442, 442, 442, 296, 308, 442, 442, 442, 442, 442, 442, 442, 442, 334, 346, 442, 442, 442, 442, 442, 442, 442, 442, 372, 389, 442, 442, 442, 442, 442, 442, 442, 442, 404, 416], 224)) (by decide) (by decide) rfl (by decide) ?_
  refine g_aload_n (by decide +kernel : decode prog_2_method_3_code 376 = .ok (.aload_n 0, 1)) rfl ?_
  refine g_iconst (v := nI 0) (by decide +kernel : decode prog_2_method_3_code 377 = .ok (.iconst 0, 1)) (by decide) ?_
  refine g_iconst (v := nI 0) (by decide +kernel : decode prog_2_method_3_code 378 = .ok (.iconst 0, 1)) (by decide) ?_
  refine g_iload_n (by decide +kernel : decode prog_2_method_3_code 379 = .ok (.iload_n 3, 1)) rfl ?_
  refine g_iload (by decide +kernel : decode prog_2_method_3_code 380 = .ok (.iload 7, 2)) rfl ?_
  refine g_callVI [.int (nI 0), .int (nI 0), .int x, .int (nI (d + 1))] (by decide +kernel : decode prog_2_method_3_code 382 = .ok (.invokevirtual 37, 3)) lk_Ac_37 (r_4_0_0 σ (upd B r (nI 30)) (r + 1) (x) hk hn ha (d := (d + 1)) (by omega) (by omega)) rfl rfl rfl rfl (Nat.le_of_ble_eq_true rfl) (Nat.le_of_ble_eq_true rfl) (fun r382 s382 h382 => ?_)
  obtain ⟨rfl, rfl⟩ := h382
  refine g_iconst (v := nI 3) (by decide +kernel : decode prog_2_method_3_code 385 = .ok (.iconst 3, 1)) (by decide) ?_
  refine g_ixor (by decide +kernel : decode prog_2_method_3_code 386 = .ok (.ixor, 1)) ?_
  exact g_iret hR (by decide +kernel : decode prog_2_method_3_code 387 = .ok (.ireturn, 1)) rfl ⟨_, rfl, ⟨rfl, rfl⟩⟩
set_option maxRecDepth 20000 in
theorem r_4_4_0 (σ : Store) (B : Row) (r : Nat) (x : Int32) {n a : Nat} (hk : σ 0 2 = nI 4) (hn : σ 0 3 = nI n) (ha : σ 0 4 = nI a) {d : Nat} (hd : d + 3 ≤ 12) (hr : r + 3 ≤ 30) : Ct ΛA mt_Ac_run 3 [.ref 0, .int (nI 4), .int (nI 0), .int x, .int (nI d)] (bS σ B r 0) (PF (nI 1 - ((x - nI (n * 2)) ^^^ nI 3)) (bS σ (wl B r [nI 40, nI 30, nI 10]) (r + 3) 0)) := by
  refine Ct.of (by decide) (Nat.le_of_ble_eq_true rfl) (fun X hR => ?_)
  show G (ΛA, mt_Ac_run, 3) X (bS σ B r 0) [some (.ref 0), some (.int (nI 4)), some (.int (nI 0)), some (.int x), some (.int (nI d)), none, none, none] [] 0
  refine g_iload_n (by decide +kernel : decode prog_2_method_3_code 0 = .ok (.iload_n 1, 1)) rfl ?_
  refine g_iconst (v := nI 4) (by decide +kernel : decode prog_2_method_3_code 1 = .ok (.iconst 4, 1)) (by decide) ?_
  refine g_imulN (by decide +kernel : decode prog_2_method_3_code 2 = .ok (.imul, 1)) ?_
  refine g_iload_n (by decide +kernel : decode prog_2_method_3_code 3 = .ok (.iload_n 2, 1)) rfl ?_
  refine g_iadd (by decide +kernel : decode prog_2_method_3_code 4 = .ok (.iadd, 1)) ?_
  refine g_top (w := nI 16) (by decide) ?_
  refine g_istore (L' := [some (.ref 0), some (.int (nI 4)), some (.int (nI 0)), some (.int x), some (.int (nI d)), some (.int (nI 16)), none, none]) (by decide +kernel : decode prog_2_method_3_code 5 = .ok (.istore 5, 2)) (Nat.le_of_ble_eq_true rfl) rfl ?_
  refine g_iload (by decide +kernel : decode prog_2_method_3_code 7 = .ok (.iload 4, 2)) rfl ?_
  refine g_bipush (v := nI 12) (by decide +kernel : decode prog_2_method_3_code 9 = .ok (.bipush 12, 2)) (by decide) ?_
  refine g_icmp_gtN (tgt := 35) (by decide +kernel : decode prog_2_method_3_code 11 = .ok (.if_icmp .gt 24, 3)) (by decide) (by omega) (by decide) (fun h => absurd h (by omega)) (fun _ => ?_)
  refine g_aload_n (by decide +kernel : decode prog_2_method_3_code 14 = .ok (.aload_n 0, 1)) rfl ?_
  refine g_getI (by decide +kernel : decode prog_2_method_3_code 15 = .ok (.getfield 15, 3)) fl_Ac_15.get rfl rfl ?_
  refine g_top (w := nI 0) (rfl) ?_
  refine g_if_neN (tgt := 35) (by decide +kernel : decode prog_2_method_3_code 18 = .ok (.ifCond .ne 17, 3)) (by decide) (by decide) (fun h => False.elim (by revert h; decide)) (fun _ => ?_)
  refine g_iload (by decide +kernel : decode prog_2_method_3_code 21 = .ok (.iload 5, 2)) rfl ?_
  refine g_if_ltN (by decide +kernel : decode prog_2_method_3_code 23 = .ok (.ifCond .lt 12, 3)) (by decide) (by decide) ?_
  refine g_iload (by decide +kernel : decode prog_2_method_3_code 26 = .ok (.iload 5, 2)) rfl ?_
  refine g_gets (j := 3) (by decide +kernel : decode prog_2_method_3_code 28 = .ok (.getstatic 41, 3)) (by decide) sl_Ac_41 ?_
  refine g_rolen (j := 3) (by decide +kernel : decode prog_2_method_3_code 31 = .ok (.arraylength, 1)) (by decide) ?_
  refine g_icmp_ltN (tgt := 37) (by decide +kernel : decode prog_2_method_3_code 32 = .ok (.if_icmp .lt 5, 3)) (by decide) (by decide) (by decide) (fun _ => ?_) (fun h => absurd (by decide) h)
  refine g_gets (j := 3) (by decide +kernel : decode prog_2_method_3_code 37 = .ok (.getstatic 41, 3)) (by decide) sl_Ac_41 ?_
  refine g_iload (by decide +kernel : decode prog_2_method_3_code 40 = .ok (.iload 5, 2)) rfl ?_
  refine g_roload (j := 3) (a := 16) (by decide +kernel : decode prog_2_method_3_code 42 = .ok (.iaload, 1)) (by decide) rfl (by decide) ?_
  refine g_top (w := nI 40) (rfl) ?_
  refine g_istore (L' := [some (.ref 0), some (.int (nI 4)), some (.int (nI 0)), some (.int x), some (.int (nI d)), some (.int (nI 16)), some (.int (nI 40)), none]) (by decide +kernel : decode prog_2_method_3_code 43 = .ok (.istore 6, 2)) (Nat.le_of_ble_eq_true rfl) rfl ?_
  refine g_aload_n (by decide +kernel : decode prog_2_method_3_code 45 = .ok (.aload_n 0, 1)) rfl ?_
  refine g_getI (by decide +kernel : decode prog_2_method_3_code 46 = .ok (.getfield 44, 3)) fl_Ac_44.get rfl rfl ?_
  refine g_top (w := nI r) (rfl) ?_
  refine g_bipush (v := nI 30) (by decide +kernel : decode prog_2_method_3_code 49 = .ok (.bipush 30, 2)) (by decide) ?_
  refine g_icmp_geN (tgt := 72) (by decide +kernel : decode prog_2_method_3_code 51 = .ok (.if_icmp .ge 21, 3)) (by decide) (by omega) (by decide) (fun h => absurd h (by omega)) (fun _ => ?_)
  refine g_aload_n (by decide +kernel : decode prog_2_method_3_code 54 = .ok (.aload_n 0, 1)) rfl ?_
  refine g_getR (by decide +kernel : decode prog_2_method_3_code 55 = .ok (.getfield 9, 3)) fl_Ac_9 rfl rfl ?_
  refine g_aload_n (by decide +kernel : decode prog_2_method_3_code 58 = .ok (.aload_n 0, 1)) rfl ?_
  refine g_dup (by decide +kernel : decode prog_2_method_3_code 59 = .ok (.dup, 1)) rfl ?_
  refine g_getI (by decide +kernel : decode prog_2_method_3_code 60 = .ok (.getfield 44, 3)) fl_Ac_44.get rfl rfl ?_
  refine g_top (w := nI r) (rfl) ?_
  refine g_dup_x1 (by decide +kernel : decode prog_2_method_3_code 63 = .ok (.dup_x1, 1)) rfl rfl ?_
  refine g_iconst (v := nI 1) (by decide +kernel : decode prog_2_method_3_code 64 = .ok (.iconst 1, 1)) (by decide) ?_
  refine g_iaddN (by decide +kernel : decode prog_2_method_3_code 65 = .ok (.iadd, 1)) ?_
  refine g_putI (by decide +kernel : decode prog_2_method_3_code 66 = .ok (.putfield 44, 3)) fl_Ac_44 rfl rfl ?_
  refine g_sto (bS_r _ _ _ _ _) ?_
  refine g_iload (by decide +kernel : decode prog_2_method_3_code 69 = .ok (.iload 6, 2)) rfl ?_
  refine g_iastore (a := r) (by decide +kernel : decode prog_2_method_3_code 71 = .ok (.iastore, 1)) rfl rfl (by omega) (by decide) ?_
  refine g_sto (bS_1 _ _ _ _ _ _) ?_
  refine g_iload (by decide +kernel : decode prog_2_method_3_code 72 = .ok (.iload 4, 2)) rfl ?_
  refine g_iconst (v := nI 1) (by decide +kernel : decode prog_2_method_3_code 74 = .ok (.iconst 1, 1)) (by decide) ?_
  refine g_iaddN (by decide +kernel : decode prog_2_method_3_code 75 = .ok (.iadd, 1)) ?_
  refine g_istore (L' := [some (.ref 0), some (.int (nI 4)), some (.int (nI 0)), some (.int x), some (.int (nI d)), some (.int (nI 16)), some (.int (nI 40)), some (.int (nI (d + 1)))]) (by decide +kernel : decode prog_2_method_3_code 76 = .ok (.istore 7, 2)) (Nat.le_of_ble_eq_true rfl) rfl ?_
  refine g_iload (by decide +kernel : decode prog_2_method_3_code 78 = .ok (.iload 6, 2)) rfl ?_
  refine g_tableIn (x := nI 40) (off := 334) (tgt := 414) (by decide +kernel : decode prog_2_method_3_code 80 = .ok (.tableswitch 442 10 61 #[224, 233, 253, 268, 442, 442, 442, 442, 442, 442, 284, 442, 442, 442, 442, 442, 442, 442, 442, 442, 296, 308, 442, 442, 442, 442, 442, 442, 442, 442, 334, 346, 442, 442, 442, 442, 442, 442, 442, 442, 372, 389, 442, 442, 442, 442, 442, 442, 442, 442, 404, 416], 224)) (by decide) (by decide) rfl (by decide) ?_
  refine g_iconst (v := nI 1) (by decide +kernel : decode prog_2_method_3_code 414 = .ok (.iconst 1, 1)) (by decide) ?_
  refine g_aload_n (by decide +kernel : decode prog_2_method_3_code 415 = .ok (.aload_n 0, 1)) rfl ?_
  refine g_iconst (v := nI 2) (by decide +kernel : decode prog_2_method_3_code 416 = .ok (.iconst 2, 1)) (by decide) ?_
  refine g_iconst (v := nI 0) (by decide +kernel : decode prog_2_method_3_code 417 = .ok (.iconst 0, 1)) (by decide) ?_
  refine g_iload_n (by decide +kernel : decode prog_2_method_3_code 418 = .ok (.iload_n 3, 1)) rfl ?_
  refine g_iload (by decide +kernel : decode prog_2_method_3_code 419 = .ok (.iload 7, 2)) rfl ?_
  refine g_callVI [.int (nI 2), .int (nI 0), .int x, .int (nI (d + 1))] (by decide +kernel : decode prog_2_method_3_code 421 = .ok (.invokevirtual 37, 3)) lk_Ac_37 (r_4_2_0 σ (upd B r (nI 40)) (r + 1) (x) hk hn ha (d := (d + 1)) (by omega) (by omega)) rfl rfl rfl rfl (Nat.le_of_ble_eq_true rfl) (Nat.le_of_ble_eq_true rfl) (fun r421 s421 h421 => ?_)
  obtain ⟨rfl, rfl⟩ := h421
  refine g_isub (by decide +kernel : decode prog_2_method_3_code 424 = .ok (.isub, 1)) ?_
  exact g_iret hR (by decide +kernel : decode prog_2_method_3_code 425 = .ok (.ireturn, 1)) rfl ⟨_, rfl, ⟨rfl, rfl⟩⟩
set_option maxRecDepth 20000 in
theorem r_4_2_1 (σ : Store) (B : Row) (r : Nat) (x : Int32) {n a : Nat} (hk : σ 0 2 = nI 4) (hn : σ 0 3 = nI n) (ha : σ 0 4 = nI a) {d : Nat} (hd : d + 4 ≤ 12) (hr : r + 4 ≤ 30) : Ct ΛA mt_Ac_run 4 [.ref 0, .int (nI 2), .int (nI 1), .int x, .int (nI d)] (bS σ B r 0) (PF ((nI 1 - ((x - nI (n * 2)) ^^^ nI 3)) * nI 2 - nI a) (bS σ (wl B r [nI 11, nI 40, nI 30, nI 10]) (r + 4) 0)) := by
  refine Ct.of (by decide) (Nat.le_of_ble_eq_true rfl) (fun X hR => ?_)
  show G (ΛA, mt_Ac_run, 4) X (bS σ B r 0) [some (.ref 0), some (.int (nI 2)), some (.int (nI 1)), some (.int x), some (.int (nI d)), none, none, none] [] 0
  refine g_iload_n (by decide +kernel : decode prog_2_method_3_code 0 = .ok (.iload_n 1, 1)) rfl ?_
  refine g_iconst (v := nI 4) (by decide +kernel : decode prog_2_method_3_code 1 = .ok (.iconst 4, 1)) (by decide) ?_
  refine g_imulN (by decide +kernel : decode prog_2_method_3_code 2 = .ok (.imul, 1)) ?_
  refine g_iload_n (by decide +kernel : decode prog_2_method_3_code 3 = .ok (.iload_n 2, 1)) rfl ?_
  refine g_iadd (by decide +kernel : decode prog_2_method_3_code 4 = .ok (.iadd, 1)) ?_
  refine g_top (w := nI 9) (by decide) ?_
  refine g_istore (L' := [some (.ref 0), some (.int (nI 2)), some (.int (nI 1)), some (.int x), some (.int (nI d)), some (.int (nI 9)), none, none]) (by decide +kernel : decode prog_2_method_3_code 5 = .ok (.istore 5, 2)) (Nat.le_of_ble_eq_true rfl) rfl ?_
  refine g_iload (by decide +kernel : decode prog_2_method_3_code 7 = .ok (.iload 4, 2)) rfl ?_
  refine g_bipush (v := nI 12) (by decide +kernel : decode prog_2_method_3_code 9 = .ok (.bipush 12, 2)) (by decide) ?_
  refine g_icmp_gtN (tgt := 35) (by decide +kernel : decode prog_2_method_3_code 11 = .ok (.if_icmp .gt 24, 3)) (by decide) (by omega) (by decide) (fun h => absurd h (by omega)) (fun _ => ?_)
  refine g_aload_n (by decide +kernel : decode prog_2_method_3_code 14 = .ok (.aload_n 0, 1)) rfl ?_
  refine g_getI (by decide +kernel : decode prog_2_method_3_code 15 = .ok (.getfield 15, 3)) fl_Ac_15.get rfl rfl ?_
  refine g_top (w := nI 0) (rfl) ?_
  refine g_if_neN (tgt := 35) (by decide +kernel : decode prog_2_method_3_code 18 = .ok (.ifCond .ne 17, 3)) (by decide) (by decide) (fun h => False.elim (by revert h; decide)) (fun _ => ?_)
  refine g_iload (by decide +kernel : decode prog_2_method_3_code 21 = .ok (.iload 5, 2)) rfl ?_
  refine g_if_ltN (by decide +kernel : decode prog_2_method_3_code 23 = .ok (.ifCond .lt 12, 3)) (by decide) (by decide) ?_
  refine g_iload (by decide +kernel : decode prog_2_method_3_code 26 = .ok (.iload 5, 2)) rfl ?_
  refine g_gets (j := 3) (by decide +kernel : decode prog_2_method_3_code 28 = .ok (.getstatic 41, 3)) (by decide) sl_Ac_41 ?_
  refine g_rolen (j := 3) (by decide +kernel : decode prog_2_method_3_code 31 = .ok (.arraylength, 1)) (by decide) ?_
  refine g_icmp_ltN (tgt := 37) (by decide +kernel : decode prog_2_method_3_code 32 = .ok (.if_icmp .lt 5, 3)) (by decide) (by decide) (by decide) (fun _ => ?_) (fun h => absurd (by decide) h)
  refine g_gets (j := 3) (by decide +kernel : decode prog_2_method_3_code 37 = .ok (.getstatic 41, 3)) (by decide) sl_Ac_41 ?_
  refine g_iload (by decide +kernel : decode prog_2_method_3_code 40 = .ok (.iload 5, 2)) rfl ?_
  refine g_roload (j := 3) (a := 9) (by decide +kernel : decode prog_2_method_3_code 42 = .ok (.iaload, 1)) (by decide) rfl (by decide) ?_
  refine g_top (w := nI 11) (rfl) ?_
  refine g_istore (L' := [some (.ref 0), some (.int (nI 2)), some (.int (nI 1)), some (.int x), some (.int (nI d)), some (.int (nI 9)), some (.int (nI 11)), none]) (by decide +kernel : decode prog_2_method_3_code 43 = .ok (.istore 6, 2)) (Nat.le_of_ble_eq_true rfl) rfl ?_
  refine g_aload_n (by decide +kernel : decode prog_2_method_3_code 45 = .ok (.aload_n 0, 1)) rfl ?_
  refine g_getI (by decide +kernel : decode prog_2_method_3_code 46 = .ok (.getfield 44, 3)) fl_Ac_44.get rfl rfl ?_
  refine g_top (w := nI r) (rfl) ?_
  refine g_bipush (v := nI 30) (by decide +kernel : decode prog_2_method_3_code 49 = .ok (.bipush 30, 2)) (by decide) ?_
  refine g_icmp_geN (tgt := 72) (by decide +kernel : decode prog_2_method_3_code 51 = .ok (.if_icmp .ge 21, 3)) (by decide) (by omega) (by decide) (fun h => absurd h (by omega)) (fun _ => ?_)
  refine g_aload_n (by decide +kernel : decode prog_2_method_3_code 54 = .ok (.aload_n 0, 1)) rfl ?_
  refine g_getR (by decide +kernel : decode prog_2_method_3_code 55 = .ok (.getfield 9, 3)) fl_Ac_9 rfl rfl ?_
  refine g_aload_n (by decide +kernel : decode prog_2_method_3_code 58 = .ok (.aload_n 0, 1)) rfl ?_
  refine g_dup (by decide +kernel : decode prog_2_method_3_code 59 = .ok (.dup, 1)) rfl ?_
  refine g_getI (by decide +kernel : decode prog_2_method_3_code 60 = .ok (.getfield 44, 3)) fl_Ac_44.get rfl rfl ?_
  refine g_top (w := nI r) (rfl) ?_
  refine g_dup_x1 (by decide +kernel : decode prog_2_method_3_code 63 = .ok (.dup_x1, 1)) rfl rfl ?_
  refine g_iconst (v := nI 1) (by decide +kernel : decode prog_2_method_3_code 64 = .ok (.iconst 1, 1)) (by decide) ?_
  refine g_iaddN (by decide +kernel : decode prog_2_method_3_code 65 = .ok (.iadd, 1)) ?_
  refine g_putI (by decide +kernel : decode prog_2_method_3_code 66 = .ok (.putfield 44, 3)) fl_Ac_44 rfl rfl ?_
  refine g_sto (bS_r _ _ _ _ _) ?_
  refine g_iload (by decide +kernel : decode prog_2_method_3_code 69 = .ok (.iload 6, 2)) rfl ?_
  refine g_iastore (a := r) (by decide +kernel : decode prog_2_method_3_code 71 = .ok (.iastore, 1)) rfl rfl (by omega) (by decide) ?_
  refine g_sto (bS_1 _ _ _ _ _ _) ?_
  refine g_iload (by decide +kernel : decode prog_2_method_3_code 72 = .ok (.iload 4, 2)) rfl ?_
  refine g_iconst (v := nI 1) (by decide +kernel : decode prog_2_method_3_code 74 = .ok (.iconst 1, 1)) (by decide) ?_
  refine g_iaddN (by decide +kernel : decode prog_2_method_3_code 75 = .ok (.iadd, 1)) ?_
  refine g_istore (L' := [some (.ref 0), some (.int (nI 2)), some (.int (nI 1)), some (.int x), some (.int (nI d)), some (.int (nI 9)), some (.int (nI 11)), some (.int (nI (d + 1)))]) (by decide +kernel : decode prog_2_method_3_code 76 = .ok (.istore 7, 2)) (Nat.le_of_ble_eq_true rfl) rfl ?_
  refine g_iload (by decide +kernel : decode prog_2_method_3_code 78 = .ok (.iload 6, 2)) rfl ?_
  refine g_tableIn (x := nI 11) (off := 233) (tgt := 313) (by decide +kernel : decode prog_2_method_3_code 80 = .ok (.tableswitch 442 10 61 #[224, 233, 253, 268, 442, 442, 442, 442, 442, 442, 284, 442, 442, 442, 442, 442, 442, 442, 442, 442, 296, 308, 442, 442, 442, 442, 442, 442, 442, 442, 334, 346, 442, 442, 442, 442, 442, 442, 442, 442, 372, 389, 442, 442, 442, 442, 442, 442, 442, 442, 404, 416], 224)) (by decide) (by decide) rfl (by decide) ?_
  refine g_aload_n (by decide +kernel : decode prog_2_method_3_code 313 = .ok (.aload_n 0, 1)) rfl ?_
  refine g_aload_n (by decide +kernel : decode prog_2_method_3_code 314 = .ok (.aload_n 0, 1)) rfl ?_
  refine g_getI (by decide +kernel : decode prog_2_method_3_code 315 = .ok (.getfield 24, 3)) fl_Ac_24.get rfl rfl ?_
  refine g_top (w := nI 4) (hk) ?_
  refine g_iconst (v := nI 0) (by decide +kernel : decode prog_2_method_3_code 318 = .ok (.iconst 0, 1)) (by decide) ?_
  refine g_iload_n (by decide +kernel : decode prog_2_method_3_code 319 = .ok (.iload_n 3, 1)) rfl ?_
  refine g_iload (by decide +kernel : decode prog_2_method_3_code 320 = .ok (.iload 7, 2)) rfl ?_
  refine g_callVI [.int (nI 4), .int (nI 0), .int x, .int (nI (d + 1))] (by decide +kernel : decode prog_2_method_3_code 322 = .ok (.invokevirtual 37, 3)) lk_Ac_37 (r_4_4_0 σ (upd B r (nI 11)) (r + 1) (x) hk hn ha (d := (d + 1)) (by omega) (by omega)) rfl rfl rfl rfl (Nat.le_of_ble_eq_true rfl) (Nat.le_of_ble_eq_true rfl) (fun r322 s322 h322 => ?_)
  obtain ⟨rfl, rfl⟩ := h322
  refine g_iconst (v := nI 2) (by decide +kernel : decode prog_2_method_3_code 325 = .ok (.iconst 2, 1)) (by decide) ?_
  refine g_imul (by decide +kernel : decode prog_2_method_3_code 326 = .ok (.imul, 1)) ?_
  refine g_aload_n (by decide +kernel : decode prog_2_method_3_code 327 = .ok (.aload_n 0, 1)) rfl ?_
  refine g_getI (by decide +kernel : decode prog_2_method_3_code 328 = .ok (.getfield 34, 3)) fl_Ac_34.get rfl rfl ?_
  refine g_top (w := nI a) (ha) ?_
  refine g_isub (by decide +kernel : decode prog_2_method_3_code 331 = .ok (.isub, 1)) ?_
  exact g_iret hR (by decide +kernel : decode prog_2_method_3_code 332 = .ok (.ireturn, 1)) rfl ⟨_, rfl, ⟨rfl, rfl⟩⟩
set_option maxRecDepth 20000 in
theorem r_4_4_1 (σ : Store) (B : Row) (r : Nat) (x : Int32) {n a : Nat} (hk : σ 0 2 = nI 4) (hn : σ 0 3 = nI n) (ha : σ 0 4 = nI a) {d : Nat} (hd : d + 5 ≤ 12) (hr : r + 8 ≤ 30) : Ct ΛA mt_Ac_run 5 [.ref 0, .int (nI 4), .int (nI 1), .int x, .int (nI d)] (bS σ B r 0) (PF (((nI 1 - ((x - nI (n * 2)) ^^^ nI 3)) * nI 2 - nI a) + (nI 1 - ((nI a - nI (n * 2)) ^^^ nI 3))) (bS σ (wl B r [nI 41, nI 11, nI 40, nI 30, nI 10, nI 40, nI 30, nI 10]) (r + 8) 0)) := by
  refine Ct.of (by decide) (Nat.le_of_ble_eq_true rfl) (fun X hR => ?_)
  show G (ΛA, mt_Ac_run, 5) X (bS σ B r 0) [some (.ref 0), some (.int (nI 4)), some (.int (nI 1)), some (.int x), some (.int (nI d)), none, none, none] [] 0
  refine g_iload_n (by decide +kernel : decode prog_2_method_3_code 0 = .ok (.iload_n 1, 1)) rfl ?_
  refine g_iconst (v := nI 4) (by decide +kernel : decode prog_2_method_3_code 1 = .ok (.iconst 4, 1)) (by decide) ?_
  refine g_imulN (by decide +kernel : decode prog_2_method_3_code 2 = .ok (.imul, 1)) ?_
  refine g_iload_n (by decide +kernel : decode prog_2_method_3_code 3 = .ok (.iload_n 2, 1)) rfl ?_
  refine g_iadd (by decide +kernel : decode prog_2_method_3_code 4 = .ok (.iadd, 1)) ?_
  refine g_top (w := nI 17) (by decide) ?_
  refine g_istore (L' := [some (.ref 0), some (.int (nI 4)), some (.int (nI 1)), some (.int x), some (.int (nI d)), some (.int (nI 17)), none, none]) (by decide +kernel : decode prog_2_method_3_code 5 = .ok (.istore 5, 2)) (Nat.le_of_ble_eq_true rfl) rfl ?_
  refine g_iload (by decide +kernel : decode prog_2_method_3_code 7 = .ok (.iload 4, 2)) rfl ?_
  refine g_bipush (v := nI 12) (by decide +kernel : decode prog_2_method_3_code 9 = .ok (.bipush 12, 2)) (by decide) ?_
  refine g_icmp_gtN (tgt := 35) (by decide +kernel : decode prog_2_method_3_code 11 = .ok (.if_icmp .gt 24, 3)) (by decide) (by omega) (by decide) (fun h => absurd h (by omega)) (fun _ => ?_)
  refine g_aload_n (by decide +kernel : decode prog_2_method_3_code 14 = .ok (.aload_n 0, 1)) rfl ?_
  refine g_getI (by decide +kernel : decode prog_2_method_3_code 15 = .ok (.getfield 15, 3)) fl_Ac_15.get rfl rfl ?_
  refine g_top (w := nI 0) (rfl) ?_
  refine g_if_neN (tgt := 35) (by decide +kernel : decode prog_2_method_3_code 18 = .ok (.ifCond .ne 17, 3)) (by decide) (by decide) (fun h => False.elim (by revert h; decide)) (fun _ => ?_)
  refine g_iload (by decide +kernel : decode prog_2_method_3_code 21 = .ok (.iload 5, 2)) rfl ?_
  refine g_if_ltN (by decide +kernel : decode prog_2_method_3_code 23 = .ok (.ifCond .lt 12, 3)) (by decide) (by decide) ?_
  refine g_iload (by decide +kernel : decode prog_2_method_3_code 26 = .ok (.iload 5, 2)) rfl ?_
  refine g_gets (j := 3) (by decide +kernel : decode prog_2_method_3_code 28 = .ok (.getstatic 41, 3)) (by decide) sl_Ac_41 ?_
  refine g_rolen (j := 3) (by decide +kernel : decode prog_2_method_3_code 31 = .ok (.arraylength, 1)) (by decide) ?_
  refine g_icmp_ltN (tgt := 37) (by decide +kernel : decode prog_2_method_3_code 32 = .ok (.if_icmp .lt 5, 3)) (by decide) (by decide) (by decide) (fun _ => ?_) (fun h => absurd (by decide) h)
  refine g_gets (j := 3) (by decide +kernel : decode prog_2_method_3_code 37 = .ok (.getstatic 41, 3)) (by decide) sl_Ac_41 ?_
  refine g_iload (by decide +kernel : decode prog_2_method_3_code 40 = .ok (.iload 5, 2)) rfl ?_
  refine g_roload (j := 3) (a := 17) (by decide +kernel : decode prog_2_method_3_code 42 = .ok (.iaload, 1)) (by decide) rfl (by decide) ?_
  refine g_top (w := nI 41) (rfl) ?_
  refine g_istore (L' := [some (.ref 0), some (.int (nI 4)), some (.int (nI 1)), some (.int x), some (.int (nI d)), some (.int (nI 17)), some (.int (nI 41)), none]) (by decide +kernel : decode prog_2_method_3_code 43 = .ok (.istore 6, 2)) (Nat.le_of_ble_eq_true rfl) rfl ?_
  refine g_aload_n (by decide +kernel : decode prog_2_method_3_code 45 = .ok (.aload_n 0, 1)) rfl ?_
  refine g_getI (by decide +kernel : decode prog_2_method_3_code 46 = .ok (.getfield 44, 3)) fl_Ac_44.get rfl rfl ?_
  refine g_top (w := nI r) (rfl) ?_
  refine g_bipush (v := nI 30) (by decide +kernel : decode prog_2_method_3_code 49 = .ok (.bipush 30, 2)) (by decide) ?_
  refine g_icmp_geN (tgt := 72) (by decide +kernel : decode prog_2_method_3_code 51 = .ok (.if_icmp .ge 21, 3)) (by decide) (by omega) (by decide) (fun h => absurd h (by omega)) (fun _ => ?_)
  refine g_aload_n (by decide +kernel : decode prog_2_method_3_code 54 = .ok (.aload_n 0, 1)) rfl ?_
  refine g_getR (by decide +kernel : decode prog_2_method_3_code 55 = .ok (.getfield 9, 3)) fl_Ac_9 rfl rfl ?_
  refine g_aload_n (by decide +kernel : decode prog_2_method_3_code 58 = .ok (.aload_n 0, 1)) rfl ?_
  refine g_dup (by decide +kernel : decode prog_2_method_3_code 59 = .ok (.dup, 1)) rfl ?_
  refine g_getI (by decide +kernel : decode prog_2_method_3_code 60 = .ok (.getfield 44, 3)) fl_Ac_44.get rfl rfl ?_
  refine g_top (w := nI r) (rfl) ?_
  refine g_dup_x1 (by decide +kernel : decode prog_2_method_3_code 63 = .ok (.dup_x1, 1)) rfl rfl ?_
  refine g_iconst (v := nI 1) (by decide +kernel : decode prog_2_method_3_code 64 = .ok (.iconst 1, 1)) (by decide) ?_
  refine g_iaddN (by decide +kernel : decode prog_2_method_3_code 65 = .ok (.iadd, 1)) ?_
  refine g_putI (by decide +kernel : decode prog_2_method_3_code 66 = .ok (.putfield 44, 3)) fl_Ac_44 rfl rfl ?_
  refine g_sto (bS_r _ _ _ _ _) ?_
  refine g_iload (by decide +kernel : decode prog_2_method_3_code 69 = .ok (.iload 6, 2)) rfl ?_
  refine g_iastore (a := r) (by decide +kernel : decode prog_2_method_3_code 71 = .ok (.iastore, 1)) rfl rfl (by omega) (by decide) ?_
  refine g_sto (bS_1 _ _ _ _ _ _) ?_
  refine g_iload (by decide +kernel : decode prog_2_method_3_code 72 = .ok (.iload 4, 2)) rfl ?_
  refine g_iconst (v := nI 1) (by decide +kernel : decode prog_2_method_3_code 74 = .ok (.iconst 1, 1)) (by decide) ?_
  refine g_iaddN (by decide +kernel : decode prog_2_method_3_code 75 = .ok (.iadd, 1)) ?_
  refine g_istore (L' := [some (.ref 0), some (.int (nI 4)), some (.int (nI 1)), some (.int x), some (.int (nI d)), some (.int (nI 17)), some (.int (nI 41)), some (.int (nI (d + 1)))]) (by decide +kernel : decode prog_2_method_3_code 76 = .ok (.istore 7, 2)) (Nat.le_of_ble_eq_true rfl) rfl ?_
  refine g_iload (by decide +kernel : decode prog_2_method_3_code 78 = .ok (.iload 6, 2)) rfl ?_
  refine g_tableIn (x := nI 41) (off := 346) (tgt := 426) (by decide +kernel : decode prog_2_method_3_code 80 = .ok (.tableswitch 442 10 61 #[224, 233, 253, 268, 442, 442, 442, 442, 442, 442, 284, 442, 442, 442, 442, 442, 442, 442, 442, 442, 296, 308, 442, 442, 442, 442, 442, 442, 442, 442, 334, 346, 442, 442, 442, 442, 442, 442, 442, 442, 372, 389, 442, 442, 442, 442, 442, 442, 442, 442, 404, 416], 224)) (by decide) (by decide) rfl (by decide) ?_
  refine g_aload_n (by decide +kernel : decode prog_2_method_3_code 426 = .ok (.aload_n 0, 1)) rfl ?_
  refine g_iconst (v := nI 2) (by decide +kernel : decode prog_2_method_3_code 427 = .ok (.iconst 2, 1)) (by decide) ?_
  refine g_iconst (v := nI 1) (by decide +kernel : decode prog_2_method_3_code 428 = .ok (.iconst 1, 1)) (by decide) ?_
  refine g_iload_n (by decide +kernel : decode prog_2_method_3_code 429 = .ok (.iload_n 3, 1)) rfl ?_
  refine g_iload (by decide +kernel : decode prog_2_method_3_code 430 = .ok (.iload 7, 2)) rfl ?_
  refine g_callVI [.int (nI 2), .int (nI 1), .int x, .int (nI (d + 1))] (by decide +kernel : decode prog_2_method_3_code 432 = .ok (.invokevirtual 37, 3)) lk_Ac_37 (r_4_2_1 σ (upd B r (nI 41)) (r + 1) (x) hk hn ha (d := (d + 1)) (by omega) (by omega)) rfl rfl rfl rfl (Nat.le_of_ble_eq_true rfl) (Nat.le_of_ble_eq_true rfl) (fun r432 s432 h432 => ?_)
  obtain ⟨rfl, rfl⟩ := h432
  refine g_aload_n (by decide +kernel : decode prog_2_method_3_code 435 = .ok (.aload_n 0, 1)) rfl ?_
  refine g_aload_n (by decide +kernel : decode prog_2_method_3_code 436 = .ok (.aload_n 0, 1)) rfl ?_
  refine g_getI (by decide +kernel : decode prog_2_method_3_code 437 = .ok (.getfield 24, 3)) fl_Ac_24.get rfl rfl ?_
  refine g_top (w := nI 4) (hk) ?_
  refine g_iconst (v := nI 0) (by decide +kernel : decode prog_2_method_3_code 440 = .ok (.iconst 0, 1)) (by decide) ?_
  refine g_aload_n (by decide +kernel : decode prog_2_method_3_code 441 = .ok (.aload_n 0, 1)) rfl ?_
  refine g_getI (by decide +kernel : decode prog_2_method_3_code 442 = .ok (.getfield 34, 3)) fl_Ac_34.get rfl rfl ?_
  refine g_top (w := nI a) (ha) ?_
  refine g_iload (by decide +kernel : decode prog_2_method_3_code 445 = .ok (.iload 7, 2)) rfl ?_
  refine g_callVI [.int (nI 4), .int (nI 0), .int (nI a), .int (nI (d + 1))] (by decide +kernel : decode prog_2_method_3_code 447 = .ok (.invokevirtual 37, 3)) lk_Ac_37 (r_4_4_0 σ (wl (upd B r (nI 41)) (r + 1) [nI 11, nI 40, nI 30, nI 10]) (r + 1 + 4) (nI a) hk hn ha (d := (d + 1)) (by omega) (by omega)) rfl rfl rfl rfl (Nat.le_of_ble_eq_true rfl) (Nat.le_of_ble_eq_true rfl) (fun r447 s447 h447 => ?_)
  obtain ⟨rfl, rfl⟩ := h447
  refine g_iadd (by decide +kernel : decode prog_2_method_3_code 450 = .ok (.iadd, 1)) ?_
  exact g_iret hR (by decide +kernel : decode prog_2_method_3_code 451 = .ok (.ireturn, 1)) rfl ⟨_, rfl, ⟨rfl, rfl⟩⟩
set_option maxRecDepth 20000 in
theorem r_4_4_2e (σ : Store) (B : Row) (r : Nat) (x : Int32) {n a : Nat} (hk : σ 0 2 = nI 4) (hn : σ 0 3 = nI n) (ha : σ 0 4 = nI a) {d : Nat} (hd : d + 1 ≤ 12) (hr : r + 1 ≤ 30) (hn7 : n ≤ 7) (ha9 : a ≤ 9) (hna : n = a) : Ct ΛA mt_Ac_run 1 [.ref 0, .int (nI 4), .int (nI 2), .int x, .int (nI d)] (bS σ B r 0) (PF (pP n a x) (bS σ (wl B r [nI 12]) (r + 1) 1)) := by
  refine Ct.of (by decide) (Nat.le_of_ble_eq_true rfl) (fun X hR => ?_)
  show G (ΛA, mt_Ac_run, 1) X (bS σ B r 0) [some (.ref 0), some (.int (nI 4)), some (.int (nI 2)), some (.int x), some (.int (nI d)), none, none, none] [] 0
  refine g_iload_n (by decide +kernel : decode prog_2_method_3_code 0 = .ok (.iload_n 1, 1)) rfl ?_
  refine g_iconst (v := nI 4) (by decide +kernel : decode prog_2_method_3_code 1 = .ok (.iconst 4, 1)) (by decide) ?_
  refine g_imulN (by decide +kernel : decode prog_2_method_3_code 2 = .ok (.imul, 1)) ?_
  refine g_iload_n (by decide +kernel : decode prog_2_method_3_code 3 = .ok (.iload_n 2, 1)) rfl ?_
  refine g_iadd (by decide +kernel : decode prog_2_method_3_code 4 = .ok (.iadd, 1)) ?_
  refine g_top (w := nI 18) (by decide) ?_
  refine g_istore (L' := [some (.ref 0), some (.int (nI 4)), some (.int (nI 2)), some (.int x), some (.int (nI d)), some (.int (nI 18)), none, none]) (by decide +kernel : decode prog_2_method_3_code 5 = .ok (.istore 5, 2)) (Nat.le_of_ble_eq_true rfl) rfl ?_
  refine g_iload (by decide +kernel : decode prog_2_method_3_code 7 = .ok (.iload 4, 2)) rfl ?_
  refine g_bipush (v := nI 12) (by decide +kernel : decode prog_2_method_3_code 9 = .ok (.bipush 12, 2)) (by decide) ?_
  refine g_icmp_gtN (tgt := 35) (by decide +kernel : decode prog_2_method_3_code 11 = .ok (.if_icmp .gt 24, 3)) (by decide) (by omega) (by decide) (fun h => absurd h (by omega)) (fun _ => ?_)
  refine g_aload_n (by decide +kernel : decode prog_2_method_3_code 14 = .ok (.aload_n 0, 1)) rfl ?_
  refine g_getI (by decide +kernel : decode prog_2_method_3_code 15 = .ok (.getfield 15, 3)) fl_Ac_15.get rfl rfl ?_
  refine g_top (w := nI 0) (rfl) ?_
  refine g_if_neN (tgt := 35) (by decide +kernel : decode prog_2_method_3_code 18 = .ok (.ifCond .ne 17, 3)) (by decide) (by decide) (fun h => False.elim (by revert h; decide)) (fun _ => ?_)
  refine g_iload (by decide +kernel : decode prog_2_method_3_code 21 = .ok (.iload 5, 2)) rfl ?_
  refine g_if_ltN (by decide +kernel : decode prog_2_method_3_code 23 = .ok (.ifCond .lt 12, 3)) (by decide) (by decide) ?_
  refine g_iload (by decide +kernel : decode prog_2_method_3_code 26 = .ok (.iload 5, 2)) rfl ?_
  refine g_gets (j := 3) (by decide +kernel : decode prog_2_method_3_code 28 = .ok (.getstatic 41, 3)) (by decide) sl_Ac_41 ?_
  refine g_rolen (j := 3) (by decide +kernel : decode prog_2_method_3_code 31 = .ok (.arraylength, 1)) (by decide) ?_
  refine g_icmp_ltN (tgt := 37) (by decide +kernel : decode prog_2_method_3_code 32 = .ok (.if_icmp .lt 5, 3)) (by decide) (by decide) (by decide) (fun _ => ?_) (fun h => absurd (by decide) h)
  refine g_gets (j := 3) (by decide +kernel : decode prog_2_method_3_code 37 = .ok (.getstatic 41, 3)) (by decide) sl_Ac_41 ?_
  refine g_iload (by decide +kernel : decode prog_2_method_3_code 40 = .ok (.iload 5, 2)) rfl ?_
  refine g_roload (j := 3) (a := 18) (by decide +kernel : decode prog_2_method_3_code 42 = .ok (.iaload, 1)) (by decide) rfl (by decide) ?_
  refine g_top (w := nI 12) (rfl) ?_
  refine g_istore (L' := [some (.ref 0), some (.int (nI 4)), some (.int (nI 2)), some (.int x), some (.int (nI d)), some (.int (nI 18)), some (.int (nI 12)), none]) (by decide +kernel : decode prog_2_method_3_code 43 = .ok (.istore 6, 2)) (Nat.le_of_ble_eq_true rfl) rfl ?_
  refine g_aload_n (by decide +kernel : decode prog_2_method_3_code 45 = .ok (.aload_n 0, 1)) rfl ?_
  refine g_getI (by decide +kernel : decode prog_2_method_3_code 46 = .ok (.getfield 44, 3)) fl_Ac_44.get rfl rfl ?_
  refine g_top (w := nI r) (rfl) ?_
  refine g_bipush (v := nI 30) (by decide +kernel : decode prog_2_method_3_code 49 = .ok (.bipush 30, 2)) (by decide) ?_
  refine g_icmp_geN (tgt := 72) (by decide +kernel : decode prog_2_method_3_code 51 = .ok (.if_icmp .ge 21, 3)) (by decide) (by omega) (by decide) (fun h => absurd h (by omega)) (fun _ => ?_)
  refine g_aload_n (by decide +kernel : decode prog_2_method_3_code 54 = .ok (.aload_n 0, 1)) rfl ?_
  refine g_getR (by decide +kernel : decode prog_2_method_3_code 55 = .ok (.getfield 9, 3)) fl_Ac_9 rfl rfl ?_
  refine g_aload_n (by decide +kernel : decode prog_2_method_3_code 58 = .ok (.aload_n 0, 1)) rfl ?_
  refine g_dup (by decide +kernel : decode prog_2_method_3_code 59 = .ok (.dup, 1)) rfl ?_
  refine g_getI (by decide +kernel : decode prog_2_method_3_code 60 = .ok (.getfield 44, 3)) fl_Ac_44.get rfl rfl ?_
  refine g_top (w := nI r) (rfl) ?_
  refine g_dup_x1 (by decide +kernel : decode prog_2_method_3_code 63 = .ok (.dup_x1, 1)) rfl rfl ?_
  refine g_iconst (v := nI 1) (by decide +kernel : decode prog_2_method_3_code 64 = .ok (.iconst 1, 1)) (by decide) ?_
  refine g_iaddN (by decide +kernel : decode prog_2_method_3_code 65 = .ok (.iadd, 1)) ?_
  refine g_putI (by decide +kernel : decode prog_2_method_3_code 66 = .ok (.putfield 44, 3)) fl_Ac_44 rfl rfl ?_
  refine g_sto (bS_r _ _ _ _ _) ?_
  refine g_iload (by decide +kernel : decode prog_2_method_3_code 69 = .ok (.iload 6, 2)) rfl ?_
  refine g_iastore (a := r) (by decide +kernel : decode prog_2_method_3_code 71 = .ok (.iastore, 1)) rfl rfl (by omega) (by decide) ?_
  refine g_sto (bS_1 _ _ _ _ _ _) ?_
  refine g_iload (by decide +kernel : decode prog_2_method_3_code 72 = .ok (.iload 4, 2)) rfl ?_
  refine g_iconst (v := nI 1) (by decide +kernel : decode prog_2_method_3_code 74 = .ok (.iconst 1, 1)) (by decide) ?_
  refine g_iaddN (by decide +kernel : decode prog_2_method_3_code 75 = .ok (.iadd, 1)) ?_
  refine g_istore (L' := [some (.ref 0), some (.int (nI 4)), some (.int (nI 2)), some (.int x), some (.int (nI d)), some (.int (nI 18)), some (.int (nI 12)), some (.int (nI (d + 1)))]) (by decide +kernel : decode prog_2_method_3_code 76 = .ok (.istore 7, 2)) (Nat.le_of_ble_eq_true rfl) rfl ?_
  refine g_iload (by decide +kernel : decode prog_2_method_3_code 78 = .ok (.iload 6, 2)) rfl ?_
  refine g_tableIn (x := nI 12) (off := 253) (tgt := 333) (by decide +kernel : decode prog_2_method_3_code 80 = .ok (.tableswitch 442 10 61 #[224, 233, 253, 268, 442, 442, 442, 442, 442, 442, 284, 442, 442, 442, 442, 442, 442, 442, 442, 442, 296, 308, 442, 442, 442, 442, 442, 442, 442, 442, 334, 346, 442, 442, 442, 442, 442, 442, 442, 442, 372, 389, 442, 442, 442, 442, 442, 442, 442, 442, 404, 416], 224)) (by decide) (by decide) rfl (by decide) ?_
  refine g_aload_n (by decide +kernel : decode prog_2_method_3_code 333 = .ok (.aload_n 0, 1)) rfl ?_
  refine g_iload_n (by decide +kernel : decode prog_2_method_3_code 334 = .ok (.iload_n 3, 1)) rfl ?_
  refine g_aload_n (by decide +kernel : decode prog_2_method_3_code 335 = .ok (.aload_n 0, 1)) rfl ?_
  refine g_getI (by decide +kernel : decode prog_2_method_3_code 336 = .ok (.getfield 34, 3)) fl_Ac_34.get rfl rfl ?_
  refine g_top (w := nI a) (ha) ?_
  refine g_aload_n (by decide +kernel : decode prog_2_method_3_code 339 = .ok (.aload_n 0, 1)) rfl ?_
  refine g_getI (by decide +kernel : decode prog_2_method_3_code 340 = .ok (.getfield 28, 3)) fl_Ac_28.get rfl rfl ?_
  refine g_top (w := nI n) (hn) ?_
  refine g_isub (by decide +kernel : decode prog_2_method_3_code 343 = .ok (.isub, 1)) ?_
  refine g_callVI [.int x, .int ((nI a) - (nI n))] (by decide +kernel : decode prog_2_method_3_code 344 = .ok (.invokevirtual 47, 3)) lk_Ac_47 (r_quote σ (upd B r (nI 12)) (r + 1) (x) hn7 ha9 hna) rfl rfl rfl rfl (Nat.le_of_ble_eq_true rfl) (Nat.le_of_ble_eq_true rfl) (fun r344 s344 h344 => ?_)
  obtain ⟨rfl, rfl⟩ := h344
  exact g_iret hR (by decide +kernel : decode prog_2_method_3_code 347 = .ok (.ireturn, 1)) rfl ⟨_, rfl, ⟨rfl, rfl⟩⟩
set_option maxRecDepth 20000 in
theorem r_4_4_2d (σ : Store) (B : Row) (r : Nat) (x : Int32) {n a : Nat} (hk : σ 0 2 = nI 4) (hn : σ 0 3 = nI n) (ha : σ 0 4 = nI a) {d : Nat} (hd : d + 1 ≤ 12) (hr : r + 1 ≤ 30) (hn7 : n ≤ 7) (ha9 : a ≤ 9) (hna : n ≠ a) : Ct ΛA mt_Ac_run 1 [.ref 0, .int (nI 4), .int (nI 2), .int x, .int (nI d)] (bS σ B r 0) (PF (pP n a x) (bS σ (wl B r [nI 12]) (r + 1) 0)) := by
  refine Ct.of (by decide) (Nat.le_of_ble_eq_true rfl) (fun X hR => ?_)
  show G (ΛA, mt_Ac_run, 1) X (bS σ B r 0) [some (.ref 0), some (.int (nI 4)), some (.int (nI 2)), some (.int x), some (.int (nI d)), none, none, none] [] 0
  refine g_iload_n (by decide +kernel : decode prog_2_method_3_code 0 = .ok (.iload_n 1, 1)) rfl ?_
  refine g_iconst (v := nI 4) (by decide +kernel : decode prog_2_method_3_code 1 = .ok (.iconst 4, 1)) (by decide) ?_
  refine g_imulN (by decide +kernel : decode prog_2_method_3_code 2 = .ok (.imul, 1)) ?_
  refine g_iload_n (by decide +kernel : decode prog_2_method_3_code 3 = .ok (.iload_n 2, 1)) rfl ?_
  refine g_iadd (by decide +kernel : decode prog_2_method_3_code 4 = .ok (.iadd, 1)) ?_
  refine g_top (w := nI 18) (by decide) ?_
  refine g_istore (L' := [some (.ref 0), some (.int (nI 4)), some (.int (nI 2)), some (.int x), some (.int (nI d)), some (.int (nI 18)), none, none]) (by decide +kernel : decode prog_2_method_3_code 5 = .ok (.istore 5, 2)) (Nat.le_of_ble_eq_true rfl) rfl ?_
  refine g_iload (by decide +kernel : decode prog_2_method_3_code 7 = .ok (.iload 4, 2)) rfl ?_
  refine g_bipush (v := nI 12) (by decide +kernel : decode prog_2_method_3_code 9 = .ok (.bipush 12, 2)) (by decide) ?_
  refine g_icmp_gtN (tgt := 35) (by decide +kernel : decode prog_2_method_3_code 11 = .ok (.if_icmp .gt 24, 3)) (by decide) (by omega) (by decide) (fun h => absurd h (by omega)) (fun _ => ?_)
  refine g_aload_n (by decide +kernel : decode prog_2_method_3_code 14 = .ok (.aload_n 0, 1)) rfl ?_
  refine g_getI (by decide +kernel : decode prog_2_method_3_code 15 = .ok (.getfield 15, 3)) fl_Ac_15.get rfl rfl ?_
  refine g_top (w := nI 0) (rfl) ?_
  refine g_if_neN (tgt := 35) (by decide +kernel : decode prog_2_method_3_code 18 = .ok (.ifCond .ne 17, 3)) (by decide) (by decide) (fun h => False.elim (by revert h; decide)) (fun _ => ?_)
  refine g_iload (by decide +kernel : decode prog_2_method_3_code 21 = .ok (.iload 5, 2)) rfl ?_
  refine g_if_ltN (by decide +kernel : decode prog_2_method_3_code 23 = .ok (.ifCond .lt 12, 3)) (by decide) (by decide) ?_
  refine g_iload (by decide +kernel : decode prog_2_method_3_code 26 = .ok (.iload 5, 2)) rfl ?_
  refine g_gets (j := 3) (by decide +kernel : decode prog_2_method_3_code 28 = .ok (.getstatic 41, 3)) (by decide) sl_Ac_41 ?_
  refine g_rolen (j := 3) (by decide +kernel : decode prog_2_method_3_code 31 = .ok (.arraylength, 1)) (by decide) ?_
  refine g_icmp_ltN (tgt := 37) (by decide +kernel : decode prog_2_method_3_code 32 = .ok (.if_icmp .lt 5, 3)) (by decide) (by decide) (by decide) (fun _ => ?_) (fun h => absurd (by decide) h)
  refine g_gets (j := 3) (by decide +kernel : decode prog_2_method_3_code 37 = .ok (.getstatic 41, 3)) (by decide) sl_Ac_41 ?_
  refine g_iload (by decide +kernel : decode prog_2_method_3_code 40 = .ok (.iload 5, 2)) rfl ?_
  refine g_roload (j := 3) (a := 18) (by decide +kernel : decode prog_2_method_3_code 42 = .ok (.iaload, 1)) (by decide) rfl (by decide) ?_
  refine g_top (w := nI 12) (rfl) ?_
  refine g_istore (L' := [some (.ref 0), some (.int (nI 4)), some (.int (nI 2)), some (.int x), some (.int (nI d)), some (.int (nI 18)), some (.int (nI 12)), none]) (by decide +kernel : decode prog_2_method_3_code 43 = .ok (.istore 6, 2)) (Nat.le_of_ble_eq_true rfl) rfl ?_
  refine g_aload_n (by decide +kernel : decode prog_2_method_3_code 45 = .ok (.aload_n 0, 1)) rfl ?_
  refine g_getI (by decide +kernel : decode prog_2_method_3_code 46 = .ok (.getfield 44, 3)) fl_Ac_44.get rfl rfl ?_
  refine g_top (w := nI r) (rfl) ?_
  refine g_bipush (v := nI 30) (by decide +kernel : decode prog_2_method_3_code 49 = .ok (.bipush 30, 2)) (by decide) ?_
  refine g_icmp_geN (tgt := 72) (by decide +kernel : decode prog_2_method_3_code 51 = .ok (.if_icmp .ge 21, 3)) (by decide) (by omega) (by decide) (fun h => absurd h (by omega)) (fun _ => ?_)
  refine g_aload_n (by decide +kernel : decode prog_2_method_3_code 54 = .ok (.aload_n 0, 1)) rfl ?_
  refine g_getR (by decide +kernel : decode prog_2_method_3_code 55 = .ok (.getfield 9, 3)) fl_Ac_9 rfl rfl ?_
  refine g_aload_n (by decide +kernel : decode prog_2_method_3_code 58 = .ok (.aload_n 0, 1)) rfl ?_
  refine g_dup (by decide +kernel : decode prog_2_method_3_code 59 = .ok (.dup, 1)) rfl ?_
  refine g_getI (by decide +kernel : decode prog_2_method_3_code 60 = .ok (.getfield 44, 3)) fl_Ac_44.get rfl rfl ?_
  refine g_top (w := nI r) (rfl) ?_
  refine g_dup_x1 (by decide +kernel : decode prog_2_method_3_code 63 = .ok (.dup_x1, 1)) rfl rfl ?_
  refine g_iconst (v := nI 1) (by decide +kernel : decode prog_2_method_3_code 64 = .ok (.iconst 1, 1)) (by decide) ?_
  refine g_iaddN (by decide +kernel : decode prog_2_method_3_code 65 = .ok (.iadd, 1)) ?_
  refine g_putI (by decide +kernel : decode prog_2_method_3_code 66 = .ok (.putfield 44, 3)) fl_Ac_44 rfl rfl ?_
  refine g_sto (bS_r _ _ _ _ _) ?_
  refine g_iload (by decide +kernel : decode prog_2_method_3_code 69 = .ok (.iload 6, 2)) rfl ?_
  refine g_iastore (a := r) (by decide +kernel : decode prog_2_method_3_code 71 = .ok (.iastore, 1)) rfl rfl (by omega) (by decide) ?_
  refine g_sto (bS_1 _ _ _ _ _ _) ?_
  refine g_iload (by decide +kernel : decode prog_2_method_3_code 72 = .ok (.iload 4, 2)) rfl ?_
  refine g_iconst (v := nI 1) (by decide +kernel : decode prog_2_method_3_code 74 = .ok (.iconst 1, 1)) (by decide) ?_
  refine g_iaddN (by decide +kernel : decode prog_2_method_3_code 75 = .ok (.iadd, 1)) ?_
  refine g_istore (L' := [some (.ref 0), some (.int (nI 4)), some (.int (nI 2)), some (.int x), some (.int (nI d)), some (.int (nI 18)), some (.int (nI 12)), some (.int (nI (d + 1)))]) (by decide +kernel : decode prog_2_method_3_code 76 = .ok (.istore 7, 2)) (Nat.le_of_ble_eq_true rfl) rfl ?_
  refine g_iload (by decide +kernel : decode prog_2_method_3_code 78 = .ok (.iload 6, 2)) rfl ?_
  refine g_tableIn (x := nI 12) (off := 253) (tgt := 333) (by decide +kernel : decode prog_2_method_3_code 80 = .ok (.tableswitch 442 10 61 #[224, 233, 253, 268, 442, 442, 442, 442, 442, 442, 284, 442, 442, 442, 442, 442, 442, 442, 442, 442, 296, 308, 442, 442, 442, 442, 442, 442, 442, 442, 334, 346, 442, 442, 442, 442, 442, 442, 442, 442, 372, 389, 442, 442, 442, 442, 442, 442, 442, 442, 404, 416], 224)) (by decide) (by decide) rfl (by decide) ?_
  refine g_aload_n (by decide +kernel : decode prog_2_method_3_code 333 = .ok (.aload_n 0, 1)) rfl ?_
  refine g_iload_n (by decide +kernel : decode prog_2_method_3_code 334 = .ok (.iload_n 3, 1)) rfl ?_
  refine g_aload_n (by decide +kernel : decode prog_2_method_3_code 335 = .ok (.aload_n 0, 1)) rfl ?_
  refine g_getI (by decide +kernel : decode prog_2_method_3_code 336 = .ok (.getfield 34, 3)) fl_Ac_34.get rfl rfl ?_
  refine g_top (w := nI a) (ha) ?_
  refine g_aload_n (by decide +kernel : decode prog_2_method_3_code 339 = .ok (.aload_n 0, 1)) rfl ?_
  refine g_getI (by decide +kernel : decode prog_2_method_3_code 340 = .ok (.getfield 28, 3)) fl_Ac_28.get rfl rfl ?_
  refine g_top (w := nI n) (hn) ?_
  refine g_isub (by decide +kernel : decode prog_2_method_3_code 343 = .ok (.isub, 1)) ?_
  refine g_callVI [.int x, .int ((nI a) - (nI n))] (by decide +kernel : decode prog_2_method_3_code 344 = .ok (.invokevirtual 47, 3)) lk_Ac_47 (r_quotd σ (upd B r (nI 12)) (r + 1) (x) hn7 ha9 hna) rfl rfl rfl rfl (Nat.le_of_ble_eq_true rfl) (Nat.le_of_ble_eq_true rfl) (fun r344 s344 h344 => ?_)
  obtain ⟨rfl, rfl⟩ := h344
  exact g_iret hR (by decide +kernel : decode prog_2_method_3_code 347 = .ok (.ireturn, 1)) rfl ⟨_, rfl, ⟨rfl, rfl⟩⟩
set_option maxRecDepth 20000 in
theorem r_4_0_3 (σ : Store) (B : Row) (r : Nat) (x : Int32) {n a : Nat} (hk : σ 0 2 = nI 4) (hn : σ 0 3 = nI n) (ha : σ 0 4 = nI a) {d : Nat} (hd : d + 6 ≤ 12) (hr : r + 9 ≤ 30) : Ct ΛA mt_Ac_run 6 [.ref 0, .int (nI 0), .int (nI 3), .int x, .int (nI d)] (bS σ B r 0) (PF ((((nI 1 - ((x - nI (n * 2)) ^^^ nI 3)) * nI 2 - nI a) + (nI 1 - ((nI a - nI (n * 2)) ^^^ nI 3))) ^^^ nI 12) (bS σ (wl B r [nI 13, nI 41, nI 11, nI 40, nI 30, nI 10, nI 40, nI 30, nI 10]) (r + 9) 0)) := by
  refine Ct.of (by decide) (Nat.le_of_ble_eq_true rfl) (fun X hR => ?_)
  show G (ΛA, mt_Ac_run, 6) X (bS σ B r 0) [some (.ref 0), some (.int (nI 0)), some (.int (nI 3)), some (.int x), some (.int (nI d)), none, none, none] [] 0
  refine g_iload_n (by decide +kernel : decode prog_2_method_3_code 0 = .ok (.iload_n 1, 1)) rfl ?_
  refine g_iconst (v := nI 4) (by decide +kernel : decode prog_2_method_3_code 1 = .ok (.iconst 4, 1)) (by decide) ?_
  refine g_imulN (by decide +kernel : decode prog_2_method_3_code 2 = .ok (.imul, 1)) ?_
  refine g_iload_n (by decide +kernel : decode prog_2_method_3_code 3 = .ok (.iload_n 2, 1)) rfl ?_
  refine g_iadd (by decide +kernel : decode prog_2_method_3_code 4 = .ok (.iadd, 1)) ?_
  refine g_top (w := nI 3) (by decide) ?_
  refine g_istore (L' := [some (.ref 0), some (.int (nI 0)), some (.int (nI 3)), some (.int x), some (.int (nI d)), some (.int (nI 3)), none, none]) (by decide +kernel : decode prog_2_method_3_code 5 = .ok (.istore 5, 2)) (Nat.le_of_ble_eq_true rfl) rfl ?_
  refine g_iload (by decide +kernel : decode prog_2_method_3_code 7 = .ok (.iload 4, 2)) rfl ?_
  refine g_bipush (v := nI 12) (by decide +kernel : decode prog_2_method_3_code 9 = .ok (.bipush 12, 2)) (by decide) ?_
  refine g_icmp_gtN (tgt := 35) (by decide +kernel : decode prog_2_method_3_code 11 = .ok (.if_icmp .gt 24, 3)) (by decide) (by omega) (by decide) (fun h => absurd h (by omega)) (fun _ => ?_)
  refine g_aload_n (by decide +kernel : decode prog_2_method_3_code 14 = .ok (.aload_n 0, 1)) rfl ?_
  refine g_getI (by decide +kernel : decode prog_2_method_3_code 15 = .ok (.getfield 15, 3)) fl_Ac_15.get rfl rfl ?_
  refine g_top (w := nI 0) (rfl) ?_
  refine g_if_neN (tgt := 35) (by decide +kernel : decode prog_2_method_3_code 18 = .ok (.ifCond .ne 17, 3)) (by decide) (by decide) (fun h => False.elim (by revert h; decide)) (fun _ => ?_)
  refine g_iload (by decide +kernel : decode prog_2_method_3_code 21 = .ok (.iload 5, 2)) rfl ?_
  refine g_if_ltN (by decide +kernel : decode prog_2_method_3_code 23 = .ok (.ifCond .lt 12, 3)) (by decide) (by decide) ?_
  refine g_iload (by decide +kernel : decode prog_2_method_3_code 26 = .ok (.iload 5, 2)) rfl ?_
  refine g_gets (j := 3) (by decide +kernel : decode prog_2_method_3_code 28 = .ok (.getstatic 41, 3)) (by decide) sl_Ac_41 ?_
  refine g_rolen (j := 3) (by decide +kernel : decode prog_2_method_3_code 31 = .ok (.arraylength, 1)) (by decide) ?_
  refine g_icmp_ltN (tgt := 37) (by decide +kernel : decode prog_2_method_3_code 32 = .ok (.if_icmp .lt 5, 3)) (by decide) (by decide) (by decide) (fun _ => ?_) (fun h => absurd (by decide) h)
  refine g_gets (j := 3) (by decide +kernel : decode prog_2_method_3_code 37 = .ok (.getstatic 41, 3)) (by decide) sl_Ac_41 ?_
  refine g_iload (by decide +kernel : decode prog_2_method_3_code 40 = .ok (.iload 5, 2)) rfl ?_
  refine g_roload (j := 3) (a := 3) (by decide +kernel : decode prog_2_method_3_code 42 = .ok (.iaload, 1)) (by decide) rfl (by decide) ?_
  refine g_top (w := nI 13) (rfl) ?_
  refine g_istore (L' := [some (.ref 0), some (.int (nI 0)), some (.int (nI 3)), some (.int x), some (.int (nI d)), some (.int (nI 3)), some (.int (nI 13)), none]) (by decide +kernel : decode prog_2_method_3_code 43 = .ok (.istore 6, 2)) (Nat.le_of_ble_eq_true rfl) rfl ?_
  refine g_aload_n (by decide +kernel : decode prog_2_method_3_code 45 = .ok (.aload_n 0, 1)) rfl ?_
  refine g_getI (by decide +kernel : decode prog_2_method_3_code 46 = .ok (.getfield 44, 3)) fl_Ac_44.get rfl rfl ?_
  refine g_top (w := nI r) (rfl) ?_
  refine g_bipush (v := nI 30) (by decide +kernel : decode prog_2_method_3_code 49 = .ok (.bipush 30, 2)) (by decide) ?_
  refine g_icmp_geN (tgt := 72) (by decide +kernel : decode prog_2_method_3_code 51 = .ok (.if_icmp .ge 21, 3)) (by decide) (by omega) (by decide) (fun h => absurd h (by omega)) (fun _ => ?_)
  refine g_aload_n (by decide +kernel : decode prog_2_method_3_code 54 = .ok (.aload_n 0, 1)) rfl ?_
  refine g_getR (by decide +kernel : decode prog_2_method_3_code 55 = .ok (.getfield 9, 3)) fl_Ac_9 rfl rfl ?_
  refine g_aload_n (by decide +kernel : decode prog_2_method_3_code 58 = .ok (.aload_n 0, 1)) rfl ?_
  refine g_dup (by decide +kernel : decode prog_2_method_3_code 59 = .ok (.dup, 1)) rfl ?_
  refine g_getI (by decide +kernel : decode prog_2_method_3_code 60 = .ok (.getfield 44, 3)) fl_Ac_44.get rfl rfl ?_
  refine g_top (w := nI r) (rfl) ?_
  refine g_dup_x1 (by decide +kernel : decode prog_2_method_3_code 63 = .ok (.dup_x1, 1)) rfl rfl ?_
  refine g_iconst (v := nI 1) (by decide +kernel : decode prog_2_method_3_code 64 = .ok (.iconst 1, 1)) (by decide) ?_
  refine g_iaddN (by decide +kernel : decode prog_2_method_3_code 65 = .ok (.iadd, 1)) ?_
  refine g_putI (by decide +kernel : decode prog_2_method_3_code 66 = .ok (.putfield 44, 3)) fl_Ac_44 rfl rfl ?_
  refine g_sto (bS_r _ _ _ _ _) ?_
  refine g_iload (by decide +kernel : decode prog_2_method_3_code 69 = .ok (.iload 6, 2)) rfl ?_
  refine g_iastore (a := r) (by decide +kernel : decode prog_2_method_3_code 71 = .ok (.iastore, 1)) rfl rfl (by omega) (by decide) ?_
  refine g_sto (bS_1 _ _ _ _ _ _) ?_
  refine g_iload (by decide +kernel : decode prog_2_method_3_code 72 = .ok (.iload 4, 2)) rfl ?_
  refine g_iconst (v := nI 1) (by decide +kernel : decode prog_2_method_3_code 74 = .ok (.iconst 1, 1)) (by decide) ?_
  refine g_iaddN (by decide +kernel : decode prog_2_method_3_code 75 = .ok (.iadd, 1)) ?_
  refine g_istore (L' := [some (.ref 0), some (.int (nI 0)), some (.int (nI 3)), some (.int x), some (.int (nI d)), some (.int (nI 3)), some (.int (nI 13)), some (.int (nI (d + 1)))]) (by decide +kernel : decode prog_2_method_3_code 76 = .ok (.istore 7, 2)) (Nat.le_of_ble_eq_true rfl) rfl ?_
  refine g_iload (by decide +kernel : decode prog_2_method_3_code 78 = .ok (.iload 6, 2)) rfl ?_
  refine g_tableIn (x := nI 13) (off := 268) (tgt := 348) (by decide +kernel : decode prog_2_method_3_code 80 = .ok (.tableswitch 442 10 61 #[224, 233, 253, 268, 442, 442, 442, 442, 442, 442, 284, 442, 442, 442, 442, 442, 442, 442, 442, 442, 296, 308, 442, 442, 442, 442, 442, 442, 442, 442, 334, 346, 442, 442, 442, 442, 442, 442, 442, 442, 372, 389, 442, 442, 442, 442, 442, 442, 442, 442, 404, 416], 224)) (by decide) (by decide) rfl (by decide) ?_
  refine g_aload_n (by decide +kernel : decode prog_2_method_3_code 348 = .ok (.aload_n 0, 1)) rfl ?_
  refine g_aload_n (by decide +kernel : decode prog_2_method_3_code 349 = .ok (.aload_n 0, 1)) rfl ?_
  refine g_getI (by decide +kernel : decode prog_2_method_3_code 350 = .ok (.getfield 24, 3)) fl_Ac_24.get rfl rfl ?_
  refine g_top (w := nI 4) (hk) ?_
  refine g_iconst (v := nI 1) (by decide +kernel : decode prog_2_method_3_code 353 = .ok (.iconst 1, 1)) (by decide) ?_
  refine g_iload_n (by decide +kernel : decode prog_2_method_3_code 354 = .ok (.iload_n 3, 1)) rfl ?_
  refine g_iload (by decide +kernel : decode prog_2_method_3_code 355 = .ok (.iload 7, 2)) rfl ?_
  refine g_callVI [.int (nI 4), .int (nI 1), .int x, .int (nI (d + 1))] (by decide +kernel : decode prog_2_method_3_code 357 = .ok (.invokevirtual 37, 3)) lk_Ac_37 (r_4_4_1 σ (upd B r (nI 13)) (r + 1) (x) hk hn ha (d := (d + 1)) (by omega) (by omega)) rfl rfl rfl rfl (Nat.le_of_ble_eq_true rfl) (Nat.le_of_ble_eq_true rfl) (fun r357 s357 h357 => ?_)
  obtain ⟨rfl, rfl⟩ := h357
  refine g_bipush (v := nI 12) (by decide +kernel : decode prog_2_method_3_code 360 = .ok (.bipush 12, 2)) (by decide) ?_
  refine g_ixor (by decide +kernel : decode prog_2_method_3_code 362 = .ok (.ixor, 1)) ?_
  exact g_iret hR (by decide +kernel : decode prog_2_method_3_code 363 = .ok (.ireturn, 1)) rfl ⟨_, rfl, ⟨rfl, rfl⟩⟩
set_option maxRecDepth 20000 in
theorem r_4_4_3e (σ : Store) (B : Row) (r : Nat) (x : Int32) {n a : Nat} (hk : σ 0 2 = nI 4) (hn : σ 0 3 = nI n) (ha : σ 0 4 = nI a) {d : Nat} (hd : d + 7 ≤ 12) (hr : r + 11 ≤ 30) (hn7 : n ≤ 7) (ha9 : a ≤ 9) (hna : n = a) : Ct ΛA mt_Ac_run 7 [.ref 0, .int (nI 4), .int (nI 3), .int x, .int (nI d)] (bS σ B r 0) (PF (((((nI 1 - ((x - nI (n * 2)) ^^^ nI 3)) * nI 2 - nI a) + (nI 1 - ((nI a - nI (n * 2)) ^^^ nI 3))) ^^^ nI 12) - (pP n a (nI n))) (bS σ (wl B r [nI 31, nI 13, nI 41, nI 11, nI 40, nI 30, nI 10, nI 40, nI 30, nI 10, nI 12]) (r + 11) 1)) := by
  refine Ct.of (by decide) (Nat.le_of_ble_eq_true rfl) (fun X hR => ?_)
  show G (ΛA, mt_Ac_run, 7) X (bS σ B r 0) [some (.ref 0), some (.int (nI 4)), some (.int (nI 3)), some (.int x), some (.int (nI d)), none, none, none] [] 0
  refine g_iload_n (by decide +kernel : decode prog_2_method_3_code 0 = .ok (.iload_n 1, 1)) rfl ?_
  refine g_iconst (v := nI 4) (by decide +kernel : decode prog_2_method_3_code 1 = .ok (.iconst 4, 1)) (by decide) ?_
  refine g_imulN (by decide +kernel : decode prog_2_method_3_code 2 = .ok (.imul, 1)) ?_
  refine g_iload_n (by decide +kernel : decode prog_2_method_3_code 3 = .ok (.iload_n 2, 1)) rfl ?_
  refine g_iadd (by decide +kernel : decode prog_2_method_3_code 4 = .ok (.iadd, 1)) ?_
  refine g_top (w := nI 19) (by decide) ?_
  refine g_istore (L' := [some (.ref 0), some (.int (nI 4)), some (.int (nI 3)), some (.int x), some (.int (nI d)), some (.int (nI 19)), none, none]) (by decide +kernel : decode prog_2_method_3_code 5 = .ok (.istore 5, 2)) (Nat.le_of_ble_eq_true rfl) rfl ?_
  refine g_iload (by decide +kernel : decode prog_2_method_3_code 7 = .ok (.iload 4, 2)) rfl ?_
  refine g_bipush (v := nI 12) (by decide +kernel : decode prog_2_method_3_code 9 = .ok (.bipush 12, 2)) (by decide) ?_
  refine g_icmp_gtN (tgt := 35) (by decide +kernel : decode prog_2_method_3_code 11 = .ok (.if_icmp .gt 24, 3)) (by decide) (by omega) (by decide) (fun h => absurd h (by omega)) (fun _ => ?_)
  refine g_aload_n (by decide +kernel : decode prog_2_method_3_code 14 = .ok (.aload_n 0, 1)) rfl ?_
  refine g_getI (by decide +kernel : decode prog_2_method_3_code 15 = .ok (.getfield 15, 3)) fl_Ac_15.get rfl rfl ?_
  refine g_top (w := nI 0) (rfl) ?_
  refine g_if_neN (tgt := 35) (by decide +kernel : decode prog_2_method_3_code 18 = .ok (.ifCond .ne 17, 3)) (by decide) (by decide) (fun h => False.elim (by revert h; decide)) (fun _ => ?_)
  refine g_iload (by decide +kernel : decode prog_2_method_3_code 21 = .ok (.iload 5, 2)) rfl ?_
  refine g_if_ltN (by decide +kernel : decode prog_2_method_3_code 23 = .ok (.ifCond .lt 12, 3)) (by decide) (by decide) ?_
  refine g_iload (by decide +kernel : decode prog_2_method_3_code 26 = .ok (.iload 5, 2)) rfl ?_
  refine g_gets (j := 3) (by decide +kernel : decode prog_2_method_3_code 28 = .ok (.getstatic 41, 3)) (by decide) sl_Ac_41 ?_
  refine g_rolen (j := 3) (by decide +kernel : decode prog_2_method_3_code 31 = .ok (.arraylength, 1)) (by decide) ?_
  refine g_icmp_ltN (tgt := 37) (by decide +kernel : decode prog_2_method_3_code 32 = .ok (.if_icmp .lt 5, 3)) (by decide) (by decide) (by decide) (fun _ => ?_) (fun h => absurd (by decide) h)
  refine g_gets (j := 3) (by decide +kernel : decode prog_2_method_3_code 37 = .ok (.getstatic 41, 3)) (by decide) sl_Ac_41 ?_
  refine g_iload (by decide +kernel : decode prog_2_method_3_code 40 = .ok (.iload 5, 2)) rfl ?_
  refine g_roload (j := 3) (a := 19) (by decide +kernel : decode prog_2_method_3_code 42 = .ok (.iaload, 1)) (by decide) rfl (by decide) ?_
  refine g_top (w := nI 31) (rfl) ?_
  refine g_istore (L' := [some (.ref 0), some (.int (nI 4)), some (.int (nI 3)), some (.int x), some (.int (nI d)), some (.int (nI 19)), some (.int (nI 31)), none]) (by decide +kernel : decode prog_2_method_3_code 43 = .ok (.istore 6, 2)) (Nat.le_of_ble_eq_true rfl) rfl ?_
  refine g_aload_n (by decide +kernel : decode prog_2_method_3_code 45 = .ok (.aload_n 0, 1)) rfl ?_
  refine g_getI (by decide +kernel : decode prog_2_method_3_code 46 = .ok (.getfield 44, 3)) fl_Ac_44.get rfl rfl ?_
  refine g_top (w := nI r) (rfl) ?_
  refine g_bipush (v := nI 30) (by decide +kernel : decode prog_2_method_3_code 49 = .ok (.bipush 30, 2)) (by decide) ?_
  refine g_icmp_geN (tgt := 72) (by decide +kernel : decode prog_2_method_3_code 51 = .ok (.if_icmp .ge 21, 3)) (by decide) (by omega) (by decide) (fun h => absurd h (by omega)) (fun _ => ?_)
  refine g_aload_n (by decide +kernel : decode prog_2_method_3_code 54 = .ok (.aload_n 0, 1)) rfl ?_
  refine g_getR (by decide +kernel : decode prog_2_method_3_code 55 = .ok (.getfield 9, 3)) fl_Ac_9 rfl rfl ?_
  refine g_aload_n (by decide +kernel : decode prog_2_method_3_code 58 = .ok (.aload_n 0, 1)) rfl ?_
  refine g_dup (by decide +kernel : decode prog_2_method_3_code 59 = .ok (.dup, 1)) rfl ?_
  refine g_getI (by decide +kernel : decode prog_2_method_3_code 60 = .ok (.getfield 44, 3)) fl_Ac_44.get rfl rfl ?_
  refine g_top (w := nI r) (rfl) ?_
  refine g_dup_x1 (by decide +kernel : decode prog_2_method_3_code 63 = .ok (.dup_x1, 1)) rfl rfl ?_
  refine g_iconst (v := nI 1) (by decide +kernel : decode prog_2_method_3_code 64 = .ok (.iconst 1, 1)) (by decide) ?_
  refine g_iaddN (by decide +kernel : decode prog_2_method_3_code 65 = .ok (.iadd, 1)) ?_
  refine g_putI (by decide +kernel : decode prog_2_method_3_code 66 = .ok (.putfield 44, 3)) fl_Ac_44 rfl rfl ?_
  refine g_sto (bS_r _ _ _ _ _) ?_
  refine g_iload (by decide +kernel : decode prog_2_method_3_code 69 = .ok (.iload 6, 2)) rfl ?_
  refine g_iastore (a := r) (by decide +kernel : decode prog_2_method_3_code 71 = .ok (.iastore, 1)) rfl rfl (by omega) (by decide) ?_
  refine g_sto (bS_1 _ _ _ _ _ _) ?_
  refine g_iload (by decide +kernel : decode prog_2_method_3_code 72 = .ok (.iload 4, 2)) rfl ?_
  refine g_iconst (v := nI 1) (by decide +kernel : decode prog_2_method_3_code 74 = .ok (.iconst 1, 1)) (by decide) ?_
  refine g_iaddN (by decide +kernel : decode prog_2_method_3_code 75 = .ok (.iadd, 1)) ?_
  refine g_istore (L' := [some (.ref 0), some (.int (nI 4)), some (.int (nI 3)), some (.int x), some (.int (nI d)), some (.int (nI 19)), some (.int (nI 31)), some (.int (nI (d + 1)))]) (by decide +kernel : decode prog_2_method_3_code 76 = .ok (.istore 7, 2)) (Nat.le_of_ble_eq_true rfl) rfl ?_
  refine g_iload (by decide +kernel : decode prog_2_method_3_code 78 = .ok (.iload 6, 2)) rfl ?_
  refine g_tableIn (x := nI 31) (off := 308) (tgt := 388) (by decide +kernel : decode prog_2_method_3_code 80 = .ok (.tableswitch 442 10 61 #[224, 233, 253, 268, 442, 442, 442, 442, 442, 442, 284, 442, 442, 442, 442, 442, 442, 442, 442, 442, 296, 308, 442, 442, 442, 442, 442, 442, 442, 442, 334, 346, 442, 442, 442, 442, 442, 442, 442, 442, 372, 389, 442, 442, 442, 442, 442, 442, 442, 442, 404, 416], 224)) (by decide) (by decide) rfl (by decide) ?_
  refine g_aload_n (by decide +kernel : decode prog_2_method_3_code 388 = .ok (.aload_n 0, 1)) rfl ?_
  refine g_iconst (v := nI 0) (by decide +kernel : decode prog_2_method_3_code 389 = .ok (.iconst 0, 1)) (by decide) ?_
  refine g_iconst (v := nI 3) (by decide +kernel : decode prog_2_method_3_code 390 = .ok (.iconst 3, 1)) (by decide) ?_
  refine g_iload_n (by decide +kernel : decode prog_2_method_3_code 391 = .ok (.iload_n 3, 1)) rfl ?_
  refine g_iload (by decide +kernel : decode prog_2_method_3_code 392 = .ok (.iload 7, 2)) rfl ?_
  refine g_callVI [.int (nI 0), .int (nI 3), .int x, .int (nI (d + 1))] (by decide +kernel : decode prog_2_method_3_code 394 = .ok (.invokevirtual 37, 3)) lk_Ac_37 (r_4_0_3 σ (upd B r (nI 31)) (r + 1) (x) hk hn ha (d := (d + 1)) (by omega) (by omega)) rfl rfl rfl rfl (Nat.le_of_ble_eq_true rfl) (Nat.le_of_ble_eq_true rfl) (fun r394 s394 h394 => ?_)
  obtain ⟨rfl, rfl⟩ := h394
  refine g_aload_n (by decide +kernel : decode prog_2_method_3_code 397 = .ok (.aload_n 0, 1)) rfl ?_
  refine g_aload_n (by decide +kernel : decode prog_2_method_3_code 398 = .ok (.aload_n 0, 1)) rfl ?_
  refine g_getI (by decide +kernel : decode prog_2_method_3_code 399 = .ok (.getfield 24, 3)) fl_Ac_24.get rfl rfl ?_
  refine g_top (w := nI 4) (hk) ?_
  refine g_iconst (v := nI 2) (by decide +kernel : decode prog_2_method_3_code 402 = .ok (.iconst 2, 1)) (by decide) ?_
  refine g_aload_n (by decide +kernel : decode prog_2_method_3_code 403 = .ok (.aload_n 0, 1)) rfl ?_
  refine g_getI (by decide +kernel : decode prog_2_method_3_code 404 = .ok (.getfield 28, 3)) fl_Ac_28.get rfl rfl ?_
  refine g_top (w := nI n) (hn) ?_
  refine g_iload (by decide +kernel : decode prog_2_method_3_code 407 = .ok (.iload 7, 2)) rfl ?_
  refine g_callVI [.int (nI 4), .int (nI 2), .int (nI n), .int (nI (d + 1))] (by decide +kernel : decode prog_2_method_3_code 409 = .ok (.invokevirtual 37, 3)) lk_Ac_37 (r_4_4_2e σ (wl (upd B r (nI 31)) (r + 1) [nI 13, nI 41, nI 11, nI 40, nI 30, nI 10, nI 40, nI 30, nI 10]) (r + 1 + 9) (nI n) hk hn ha (d := (d + 1)) (by omega) (by omega) hn7 ha9 hna) rfl rfl rfl rfl (Nat.le_of_ble_eq_true rfl) (Nat.le_of_ble_eq_true rfl) (fun r409 s409 h409 => ?_)
  obtain ⟨rfl, rfl⟩ := h409
  refine g_isub (by decide +kernel : decode prog_2_method_3_code 412 = .ok (.isub, 1)) ?_
  exact g_iret hR (by decide +kernel : decode prog_2_method_3_code 413 = .ok (.ireturn, 1)) rfl ⟨_, rfl, ⟨rfl, rfl⟩⟩
set_option maxRecDepth 20000 in
theorem r_4_4_3d (σ : Store) (B : Row) (r : Nat) (x : Int32) {n a : Nat} (hk : σ 0 2 = nI 4) (hn : σ 0 3 = nI n) (ha : σ 0 4 = nI a) {d : Nat} (hd : d + 7 ≤ 12) (hr : r + 11 ≤ 30) (hn7 : n ≤ 7) (ha9 : a ≤ 9) (hna : n ≠ a) : Ct ΛA mt_Ac_run 7 [.ref 0, .int (nI 4), .int (nI 3), .int x, .int (nI d)] (bS σ B r 0) (PF (((((nI 1 - ((x - nI (n * 2)) ^^^ nI 3)) * nI 2 - nI a) + (nI 1 - ((nI a - nI (n * 2)) ^^^ nI 3))) ^^^ nI 12) - (pP n a (nI n))) (bS σ (wl B r [nI 31, nI 13, nI 41, nI 11, nI 40, nI 30, nI 10, nI 40, nI 30, nI 10, nI 12]) (r + 11) 0)) := by
  refine Ct.of (by decide) (Nat.le_of_ble_eq_true rfl) (fun X hR => ?_)
  show G (ΛA, mt_Ac_run, 7) X (bS σ B r 0) [some (.ref 0), some (.int (nI 4)), some (.int (nI 3)), some (.int x), some (.int (nI d)), none, none, none] [] 0
  refine g_iload_n (by decide +kernel : decode prog_2_method_3_code 0 = .ok (.iload_n 1, 1)) rfl ?_
  refine g_iconst (v := nI 4) (by decide +kernel : decode prog_2_method_3_code 1 = .ok (.iconst 4, 1)) (by decide) ?_
  refine g_imulN (by decide +kernel : decode prog_2_method_3_code 2 = .ok (.imul, 1)) ?_
  refine g_iload_n (by decide +kernel : decode prog_2_method_3_code 3 = .ok (.iload_n 2, 1)) rfl ?_
  refine g_iadd (by decide +kernel : decode prog_2_method_3_code 4 = .ok (.iadd, 1)) ?_
  refine g_top (w := nI 19) (by decide) ?_
  refine g_istore (L' := [some (.ref 0), some (.int (nI 4)), some (.int (nI 3)), some (.int x), some (.int (nI d)), some (.int (nI 19)), none, none]) (by decide +kernel : decode prog_2_method_3_code 5 = .ok (.istore 5, 2)) (Nat.le_of_ble_eq_true rfl) rfl ?_
  refine g_iload (by decide +kernel : decode prog_2_method_3_code 7 = .ok (.iload 4, 2)) rfl ?_
  refine g_bipush (v := nI 12) (by decide +kernel : decode prog_2_method_3_code 9 = .ok (.bipush 12, 2)) (by decide) ?_
  refine g_icmp_gtN (tgt := 35) (by decide +kernel : decode prog_2_method_3_code 11 = .ok (.if_icmp .gt 24, 3)) (by decide) (by omega) (by decide) (fun h => absurd h (by omega)) (fun _ => ?_)
  refine g_aload_n (by decide +kernel : decode prog_2_method_3_code 14 = .ok (.aload_n 0, 1)) rfl ?_
  refine g_getI (by decide +kernel : decode prog_2_method_3_code 15 = .ok (.getfield 15, 3)) fl_Ac_15.get rfl rfl ?_
  refine g_top (w := nI 0) (rfl) ?_
  refine g_if_neN (tgt := 35) (by decide +kernel : decode prog_2_method_3_code 18 = .ok (.ifCond .ne 17, 3)) (by decide) (by decide) (fun h => False.elim (by revert h; decide)) (fun _ => ?_)
  refine g_iload (by decide +kernel : decode prog_2_method_3_code 21 = .ok (.iload 5, 2)) rfl ?_
  refine g_if_ltN (by decide +kernel : decode prog_2_method_3_code 23 = .ok (.ifCond .lt 12, 3)) (by decide) (by decide) ?_
  refine g_iload (by decide +kernel : decode prog_2_method_3_code 26 = .ok (.iload 5, 2)) rfl ?_
  refine g_gets (j := 3) (by decide +kernel : decode prog_2_method_3_code 28 = .ok (.getstatic 41, 3)) (by decide) sl_Ac_41 ?_
  refine g_rolen (j := 3) (by decide +kernel : decode prog_2_method_3_code 31 = .ok (.arraylength, 1)) (by decide) ?_
  refine g_icmp_ltN (tgt := 37) (by decide +kernel : decode prog_2_method_3_code 32 = .ok (.if_icmp .lt 5, 3)) (by decide) (by decide) (by decide) (fun _ => ?_) (fun h => absurd (by decide) h)
  refine g_gets (j := 3) (by decide +kernel : decode prog_2_method_3_code 37 = .ok (.getstatic 41, 3)) (by decide) sl_Ac_41 ?_
  refine g_iload (by decide +kernel : decode prog_2_method_3_code 40 = .ok (.iload 5, 2)) rfl ?_
  refine g_roload (j := 3) (a := 19) (by decide +kernel : decode prog_2_method_3_code 42 = .ok (.iaload, 1)) (by decide) rfl (by decide) ?_
  refine g_top (w := nI 31) (rfl) ?_
  refine g_istore (L' := [some (.ref 0), some (.int (nI 4)), some (.int (nI 3)), some (.int x), some (.int (nI d)), some (.int (nI 19)), some (.int (nI 31)), none]) (by decide +kernel : decode prog_2_method_3_code 43 = .ok (.istore 6, 2)) (Nat.le_of_ble_eq_true rfl) rfl ?_
  refine g_aload_n (by decide +kernel : decode prog_2_method_3_code 45 = .ok (.aload_n 0, 1)) rfl ?_
  refine g_getI (by decide +kernel : decode prog_2_method_3_code 46 = .ok (.getfield 44, 3)) fl_Ac_44.get rfl rfl ?_
  refine g_top (w := nI r) (rfl) ?_
  refine g_bipush (v := nI 30) (by decide +kernel : decode prog_2_method_3_code 49 = .ok (.bipush 30, 2)) (by decide) ?_
  refine g_icmp_geN (tgt := 72) (by decide +kernel : decode prog_2_method_3_code 51 = .ok (.if_icmp .ge 21, 3)) (by decide) (by omega) (by decide) (fun h => absurd h (by omega)) (fun _ => ?_)
  refine g_aload_n (by decide +kernel : decode prog_2_method_3_code 54 = .ok (.aload_n 0, 1)) rfl ?_
  refine g_getR (by decide +kernel : decode prog_2_method_3_code 55 = .ok (.getfield 9, 3)) fl_Ac_9 rfl rfl ?_
  refine g_aload_n (by decide +kernel : decode prog_2_method_3_code 58 = .ok (.aload_n 0, 1)) rfl ?_
  refine g_dup (by decide +kernel : decode prog_2_method_3_code 59 = .ok (.dup, 1)) rfl ?_
  refine g_getI (by decide +kernel : decode prog_2_method_3_code 60 = .ok (.getfield 44, 3)) fl_Ac_44.get rfl rfl ?_
  refine g_top (w := nI r) (rfl) ?_
  refine g_dup_x1 (by decide +kernel : decode prog_2_method_3_code 63 = .ok (.dup_x1, 1)) rfl rfl ?_
  refine g_iconst (v := nI 1) (by decide +kernel : decode prog_2_method_3_code 64 = .ok (.iconst 1, 1)) (by decide) ?_
  refine g_iaddN (by decide +kernel : decode prog_2_method_3_code 65 = .ok (.iadd, 1)) ?_
  refine g_putI (by decide +kernel : decode prog_2_method_3_code 66 = .ok (.putfield 44, 3)) fl_Ac_44 rfl rfl ?_
  refine g_sto (bS_r _ _ _ _ _) ?_
  refine g_iload (by decide +kernel : decode prog_2_method_3_code 69 = .ok (.iload 6, 2)) rfl ?_
  refine g_iastore (a := r) (by decide +kernel : decode prog_2_method_3_code 71 = .ok (.iastore, 1)) rfl rfl (by omega) (by decide) ?_
  refine g_sto (bS_1 _ _ _ _ _ _) ?_
  refine g_iload (by decide +kernel : decode prog_2_method_3_code 72 = .ok (.iload 4, 2)) rfl ?_
  refine g_iconst (v := nI 1) (by decide +kernel : decode prog_2_method_3_code 74 = .ok (.iconst 1, 1)) (by decide) ?_
  refine g_iaddN (by decide +kernel : decode prog_2_method_3_code 75 = .ok (.iadd, 1)) ?_
  refine g_istore (L' := [some (.ref 0), some (.int (nI 4)), some (.int (nI 3)), some (.int x), some (.int (nI d)), some (.int (nI 19)), some (.int (nI 31)), some (.int (nI (d + 1)))]) (by decide +kernel : decode prog_2_method_3_code 76 = .ok (.istore 7, 2)) (Nat.le_of_ble_eq_true rfl) rfl ?_
  refine g_iload (by decide +kernel : decode prog_2_method_3_code 78 = .ok (.iload 6, 2)) rfl ?_
  refine g_tableIn (x := nI 31) (off := 308) (tgt := 388) (by decide +kernel : decode prog_2_method_3_code 80 = .ok (.tableswitch 442 10 61 #[224, 233, 253, 268, 442, 442, 442, 442, 442, 442, 284, 442, 442, 442, 442, 442, 442, 442, 442, 442, 296, 308, 442, 442, 442, 442, 442, 442, 442, 442, 334, 346, 442, 442, 442, 442, 442, 442, 442, 442, 372, 389, 442, 442, 442, 442, 442, 442, 442, 442, 404, 416], 224)) (by decide) (by decide) rfl (by decide) ?_
  refine g_aload_n (by decide +kernel : decode prog_2_method_3_code 388 = .ok (.aload_n 0, 1)) rfl ?_
  refine g_iconst (v := nI 0) (by decide +kernel : decode prog_2_method_3_code 389 = .ok (.iconst 0, 1)) (by decide) ?_
  refine g_iconst (v := nI 3) (by decide +kernel : decode prog_2_method_3_code 390 = .ok (.iconst 3, 1)) (by decide) ?_
  refine g_iload_n (by decide +kernel : decode prog_2_method_3_code 391 = .ok (.iload_n 3, 1)) rfl ?_
  refine g_iload (by decide +kernel : decode prog_2_method_3_code 392 = .ok (.iload 7, 2)) rfl ?_
  refine g_callVI [.int (nI 0), .int (nI 3), .int x, .int (nI (d + 1))] (by decide +kernel : decode prog_2_method_3_code 394 = .ok (.invokevirtual 37, 3)) lk_Ac_37 (r_4_0_3 σ (upd B r (nI 31)) (r + 1) (x) hk hn ha (d := (d + 1)) (by omega) (by omega)) rfl rfl rfl rfl (Nat.le_of_ble_eq_true rfl) (Nat.le_of_ble_eq_true rfl) (fun r394 s394 h394 => ?_)
  obtain ⟨rfl, rfl⟩ := h394
  refine g_aload_n (by decide +kernel : decode prog_2_method_3_code 397 = .ok (.aload_n 0, 1)) rfl ?_
  refine g_aload_n (by decide +kernel : decode prog_2_method_3_code 398 = .ok (.aload_n 0, 1)) rfl ?_
  refine g_getI (by decide +kernel : decode prog_2_method_3_code 399 = .ok (.getfield 24, 3)) fl_Ac_24.get rfl rfl ?_
  refine g_top (w := nI 4) (hk) ?_
  refine g_iconst (v := nI 2) (by decide +kernel : decode prog_2_method_3_code 402 = .ok (.iconst 2, 1)) (by decide) ?_
  refine g_aload_n (by decide +kernel : decode prog_2_method_3_code 403 = .ok (.aload_n 0, 1)) rfl ?_
  refine g_getI (by decide +kernel : decode prog_2_method_3_code 404 = .ok (.getfield 28, 3)) fl_Ac_28.get rfl rfl ?_
  refine g_top (w := nI n) (hn) ?_
  refine g_iload (by decide +kernel : decode prog_2_method_3_code 407 = .ok (.iload 7, 2)) rfl ?_
  refine g_callVI [.int (nI 4), .int (nI 2), .int (nI n), .int (nI (d + 1))] (by decide +kernel : decode prog_2_method_3_code 409 = .ok (.invokevirtual 37, 3)) lk_Ac_37 (r_4_4_2d σ (wl (upd B r (nI 31)) (r + 1) [nI 13, nI 41, nI 11, nI 40, nI 30, nI 10, nI 40, nI 30, nI 10]) (r + 1 + 9) (nI n) hk hn ha (d := (d + 1)) (by omega) (by omega) hn7 ha9 hna) rfl rfl rfl rfl (Nat.le_of_ble_eq_true rfl) (Nat.le_of_ble_eq_true rfl) (fun r409 s409 h409 => ?_)
  obtain ⟨rfl, rfl⟩ := h409
  refine g_isub (by decide +kernel : decode prog_2_method_3_code 412 = .ok (.isub, 1)) ?_
  exact g_iret hR (by decide +kernel : decode prog_2_method_3_code 413 = .ok (.ireturn, 1)) rfl ⟨_, rfl, ⟨rfl, rfl⟩⟩
set_option maxRecDepth 20000 in
theorem r_5_5_0 (σ : Store) (B : Row) (r : Nat) (x : Int32) {n a : Nat} (hk : σ 0 2 = nI 5) (hn : σ 0 3 = nI n) (ha : σ 0 4 = nI a) {d : Nat} (hd : d + 1 ≤ 12) (hr : r + 1 ≤ 30) : Ct ΛA mt_Ac_run 1 [.ref 0, .int (nI 5), .int (nI 0), .int x, .int (nI d)] (bS σ B r 0) (PF (x - nI (n * 2)) (bS σ (wl B r [nI 10]) (r + 1) 0)) := by
  refine Ct.of (by decide) (Nat.le_of_ble_eq_true rfl) (fun X hR => ?_)
  show G (ΛA, mt_Ac_run, 1) X (bS σ B r 0) [some (.ref 0), some (.int (nI 5)), some (.int (nI 0)), some (.int x), some (.int (nI d)), none, none, none] [] 0
  refine g_iload_n (by decide +kernel : decode prog_2_method_3_code 0 = .ok (.iload_n 1, 1)) rfl ?_
  refine g_iconst (v := nI 4) (by decide +kernel : decode prog_2_method_3_code 1 = .ok (.iconst 4, 1)) (by decide) ?_
  refine g_imulN (by decide +kernel : decode prog_2_method_3_code 2 = .ok (.imul, 1)) ?_
  refine g_iload_n (by decide +kernel : decode prog_2_method_3_code 3 = .ok (.iload_n 2, 1)) rfl ?_
  refine g_iadd (by decide +kernel : decode prog_2_method_3_code 4 = .ok (.iadd, 1)) ?_
  refine g_top (w := nI 20) (by decide) ?_
  refine g_istore (L' := [some (.ref 0), some (.int (nI 5)), some (.int (nI 0)), some (.int x), some (.int (nI d)), some (.int (nI 20)), none, none]) (by decide +kernel : decode prog_2_method_3_code 5 = .ok (.istore 5, 2)) (Nat.le_of_ble_eq_true rfl) rfl ?_
  refine g_iload (by decide +kernel : decode prog_2_method_3_code 7 = .ok (.iload 4, 2)) rfl ?_
  refine g_bipush (v := nI 12) (by decide +kernel : decode prog_2_method_3_code 9 = .ok (.bipush 12, 2)) (by decide) ?_
  refine g_icmp_gtN (tgt := 35) (by decide +kernel : decode prog_2_method_3_code 11 = .ok (.if_icmp .gt 24, 3)) (by decide) (by omega) (by decide) (fun h => absurd h (by omega)) (fun _ => ?_)
  refine g_aload_n (by decide +kernel : decode prog_2_method_3_code 14 = .ok (.aload_n 0, 1)) rfl ?_
  refine g_getI (by decide +kernel : decode prog_2_method_3_code 15 = .ok (.getfield 15, 3)) fl_Ac_15.get rfl rfl ?_
  refine g_top (w := nI 0) (rfl) ?_
  refine g_if_neN (tgt := 35) (by decide +kernel : decode prog_2_method_3_code 18 = .ok (.ifCond .ne 17, 3)) (by decide) (by decide) (fun h => False.elim (by revert h; decide)) (fun _ => ?_)
  refine g_iload (by decide +kernel : decode prog_2_method_3_code 21 = .ok (.iload 5, 2)) rfl ?_
  refine g_if_ltN (by decide +kernel : decode prog_2_method_3_code 23 = .ok (.ifCond .lt 12, 3)) (by decide) (by decide) ?_
  refine g_iload (by decide +kernel : decode prog_2_method_3_code 26 = .ok (.iload 5, 2)) rfl ?_
  refine g_gets (j := 3) (by decide +kernel : decode prog_2_method_3_code 28 = .ok (.getstatic 41, 3)) (by decide) sl_Ac_41 ?_
  refine g_rolen (j := 3) (by decide +kernel : decode prog_2_method_3_code 31 = .ok (.arraylength, 1)) (by decide) ?_
  refine g_icmp_ltN (tgt := 37) (by decide +kernel : decode prog_2_method_3_code 32 = .ok (.if_icmp .lt 5, 3)) (by decide) (by decide) (by decide) (fun _ => ?_) (fun h => absurd (by decide) h)
  refine g_gets (j := 3) (by decide +kernel : decode prog_2_method_3_code 37 = .ok (.getstatic 41, 3)) (by decide) sl_Ac_41 ?_
  refine g_iload (by decide +kernel : decode prog_2_method_3_code 40 = .ok (.iload 5, 2)) rfl ?_
  refine g_roload (j := 3) (a := 20) (by decide +kernel : decode prog_2_method_3_code 42 = .ok (.iaload, 1)) (by decide) rfl (by decide) ?_
  refine g_top (w := nI 10) (rfl) ?_
  refine g_istore (L' := [some (.ref 0), some (.int (nI 5)), some (.int (nI 0)), some (.int x), some (.int (nI d)), some (.int (nI 20)), some (.int (nI 10)), none]) (by decide +kernel : decode prog_2_method_3_code 43 = .ok (.istore 6, 2)) (Nat.le_of_ble_eq_true rfl) rfl ?_
  refine g_aload_n (by decide +kernel : decode prog_2_method_3_code 45 = .ok (.aload_n 0, 1)) rfl ?_
  refine g_getI (by decide +kernel : decode prog_2_method_3_code 46 = .ok (.getfield 44, 3)) fl_Ac_44.get rfl rfl ?_
  refine g_top (w := nI r) (rfl) ?_
  refine g_bipush (v := nI 30) (by decide +kernel : decode prog_2_method_3_code 49 = .ok (.bipush 30, 2)) (by decide) ?_
  refine g_icmp_geN (tgt := 72) (by decide +kernel : decode prog_2_method_3_code 51 = .ok (.if_icmp .ge 21, 3)) (by decide) (by omega) (by decide) (fun h => absurd h (by omega)) (fun _ => ?_)
  refine g_aload_n (by decide +kernel : decode prog_2_method_3_code 54 = .ok (.aload_n 0, 1)) rfl ?_
  refine g_getR (by decide +kernel : decode prog_2_method_3_code 55 = .ok (.getfield 9, 3)) fl_Ac_9 rfl rfl ?_
  refine g_aload_n (by decide +kernel : decode prog_2_method_3_code 58 = .ok (.aload_n 0, 1)) rfl ?_
  refine g_dup (by decide +kernel : decode prog_2_method_3_code 59 = .ok (.dup, 1)) rfl ?_
  refine g_getI (by decide +kernel : decode prog_2_method_3_code 60 = .ok (.getfield 44, 3)) fl_Ac_44.get rfl rfl ?_
  refine g_top (w := nI r) (rfl) ?_
  refine g_dup_x1 (by decide +kernel : decode prog_2_method_3_code 63 = .ok (.dup_x1, 1)) rfl rfl ?_
  refine g_iconst (v := nI 1) (by decide +kernel : decode prog_2_method_3_code 64 = .ok (.iconst 1, 1)) (by decide) ?_
  refine g_iaddN (by decide +kernel : decode prog_2_method_3_code 65 = .ok (.iadd, 1)) ?_
  refine g_putI (by decide +kernel : decode prog_2_method_3_code 66 = .ok (.putfield 44, 3)) fl_Ac_44 rfl rfl ?_
  refine g_sto (bS_r _ _ _ _ _) ?_
  refine g_iload (by decide +kernel : decode prog_2_method_3_code 69 = .ok (.iload 6, 2)) rfl ?_
  refine g_iastore (a := r) (by decide +kernel : decode prog_2_method_3_code 71 = .ok (.iastore, 1)) rfl rfl (by omega) (by decide) ?_
  refine g_sto (bS_1 _ _ _ _ _ _) ?_
  refine g_iload (by decide +kernel : decode prog_2_method_3_code 72 = .ok (.iload 4, 2)) rfl ?_
  refine g_iconst (v := nI 1) (by decide +kernel : decode prog_2_method_3_code 74 = .ok (.iconst 1, 1)) (by decide) ?_
  refine g_iaddN (by decide +kernel : decode prog_2_method_3_code 75 = .ok (.iadd, 1)) ?_
  refine g_istore (L' := [some (.ref 0), some (.int (nI 5)), some (.int (nI 0)), some (.int x), some (.int (nI d)), some (.int (nI 20)), some (.int (nI 10)), some (.int (nI (d + 1)))]) (by decide +kernel : decode prog_2_method_3_code 76 = .ok (.istore 7, 2)) (Nat.le_of_ble_eq_true rfl) rfl ?_
  refine g_iload (by decide +kernel : decode prog_2_method_3_code 78 = .ok (.iload 6, 2)) rfl ?_
  refine g_tableIn (x := nI 10) (off := 224) (tgt := 304) (by decide +kernel : decode prog_2_method_3_code 80 = .ok (.tableswitch 442 10 61 #[224, 233, 253, 268, 442, 442, 442, 442, 442, 442, 284, 442, 442, 442, 442, 442, 442, 442, 442, 442, 296, 308, 442, 442, 442, 442, 442, 442, 442, 442, 334, 346, 442, 442, 442, 442, 442, 442, 442, 442, 372, 389, 442, 442, 442, 442, 442, 442, 442, 442, 404, 416], 224)) (by decide) (by decide) rfl (by decide) ?_
  refine g_iload_n (by decide +kernel : decode prog_2_method_3_code 304 = .ok (.iload_n 3, 1)) rfl ?_
  refine g_aload_n (by decide +kernel : decode prog_2_method_3_code 305 = .ok (.aload_n 0, 1)) rfl ?_
  refine g_getI (by decide +kernel : decode prog_2_method_3_code 306 = .ok (.getfield 28, 3)) fl_Ac_28.get rfl rfl ?_
  refine g_top (w := nI n) (hn) ?_
  refine g_iconst (v := nI 2) (by decide +kernel : decode prog_2_method_3_code 309 = .ok (.iconst 2, 1)) (by decide) ?_
  refine g_imulN (by decide +kernel : decode prog_2_method_3_code 310 = .ok (.imul, 1)) ?_
  refine g_isub (by decide +kernel : decode prog_2_method_3_code 311 = .ok (.isub, 1)) ?_
  exact g_iret hR (by decide +kernel : decode prog_2_method_3_code 312 = .ok (.ireturn, 1)) rfl ⟨_, rfl, ⟨rfl, rfl⟩⟩
set_option maxRecDepth 20000 in
theorem r_5_5_1 (σ : Store) (B : Row) (r : Nat) (x : Int32) {n a : Nat} (hk : σ 0 2 = nI 5) (hn : σ 0 3 = nI n) (ha : σ 0 4 = nI a) {d : Nat} (hd : d + 2 ≤ 12) (hr : r + 2 ≤ 30) : Ct ΛA mt_Ac_run 2 [.ref 0, .int (nI 5), .int (nI 1), .int x, .int (nI d)] (bS σ B r 0) (PF ((x - nI (n * 2)) * nI 2 - nI a) (bS σ (wl B r [nI 11, nI 10]) (r + 2) 0)) := by
  refine Ct.of (by decide) (Nat.le_of_ble_eq_true rfl) (fun X hR => ?_)
  show G (ΛA, mt_Ac_run, 2) X (bS σ B r 0) [some (.ref 0), some (.int (nI 5)), some (.int (nI 1)), some (.int x), some (.int (nI d)), none, none, none] [] 0
  refine g_iload_n (by decide +kernel : decode prog_2_method_3_code 0 = .ok (.iload_n 1, 1)) rfl ?_
  refine g_iconst (v := nI 4) (by decide +kernel : decode prog_2_method_3_code 1 = .ok (.iconst 4, 1)) (by decide) ?_
  refine g_imulN (by decide +kernel : decode prog_2_method_3_code 2 = .ok (.imul, 1)) ?_
  refine g_iload_n (by decide +kernel : decode prog_2_method_3_code 3 = .ok (.iload_n 2, 1)) rfl ?_
  refine g_iadd (by decide +kernel : decode prog_2_method_3_code 4 = .ok (.iadd, 1)) ?_
  refine g_top (w := nI 21) (by decide) ?_
  refine g_istore (L' := [some (.ref 0), some (.int (nI 5)), some (.int (nI 1)), some (.int x), some (.int (nI d)), some (.int (nI 21)), none, none]) (by decide +kernel : decode prog_2_method_3_code 5 = .ok (.istore 5, 2)) (Nat.le_of_ble_eq_true rfl) rfl ?_
  refine g_iload (by decide +kernel : decode prog_2_method_3_code 7 = .ok (.iload 4, 2)) rfl ?_
  refine g_bipush (v := nI 12) (by decide +kernel : decode prog_2_method_3_code 9 = .ok (.bipush 12, 2)) (by decide) ?_
  refine g_icmp_gtN (tgt := 35) (by decide +kernel : decode prog_2_method_3_code 11 = .ok (.if_icmp .gt 24, 3)) (by decide) (by omega) (by decide) (fun h => absurd h (by omega)) (fun _ => ?_)
  refine g_aload_n (by decide +kernel : decode prog_2_method_3_code 14 = .ok (.aload_n 0, 1)) rfl ?_
  refine g_getI (by decide +kernel : decode prog_2_method_3_code 15 = .ok (.getfield 15, 3)) fl_Ac_15.get rfl rfl ?_
  refine g_top (w := nI 0) (rfl) ?_
  refine g_if_neN (tgt := 35) (by decide +kernel : decode prog_2_method_3_code 18 = .ok (.ifCond .ne 17, 3)) (by decide) (by decide) (fun h => False.elim (by revert h; decide)) (fun _ => ?_)
  refine g_iload (by decide +kernel : decode prog_2_method_3_code 21 = .ok (.iload 5, 2)) rfl ?_
  refine g_if_ltN (by decide +kernel : decode prog_2_method_3_code 23 = .ok (.ifCond .lt 12, 3)) (by decide) (by decide) ?_
  refine g_iload (by decide +kernel : decode prog_2_method_3_code 26 = .ok (.iload 5, 2)) rfl ?_
  refine g_gets (j := 3) (by decide +kernel : decode prog_2_method_3_code 28 = .ok (.getstatic 41, 3)) (by decide) sl_Ac_41 ?_
  refine g_rolen (j := 3) (by decide +kernel : decode prog_2_method_3_code 31 = .ok (.arraylength, 1)) (by decide) ?_
  refine g_icmp_ltN (tgt := 37) (by decide +kernel : decode prog_2_method_3_code 32 = .ok (.if_icmp .lt 5, 3)) (by decide) (by decide) (by decide) (fun _ => ?_) (fun h => absurd (by decide) h)
  refine g_gets (j := 3) (by decide +kernel : decode prog_2_method_3_code 37 = .ok (.getstatic 41, 3)) (by decide) sl_Ac_41 ?_
  refine g_iload (by decide +kernel : decode prog_2_method_3_code 40 = .ok (.iload 5, 2)) rfl ?_
  refine g_roload (j := 3) (a := 21) (by decide +kernel : decode prog_2_method_3_code 42 = .ok (.iaload, 1)) (by decide) rfl (by decide) ?_
  refine g_top (w := nI 11) (rfl) ?_
  refine g_istore (L' := [some (.ref 0), some (.int (nI 5)), some (.int (nI 1)), some (.int x), some (.int (nI d)), some (.int (nI 21)), some (.int (nI 11)), none]) (by decide +kernel : decode prog_2_method_3_code 43 = .ok (.istore 6, 2)) (Nat.le_of_ble_eq_true rfl) rfl ?_
  refine g_aload_n (by decide +kernel : decode prog_2_method_3_code 45 = .ok (.aload_n 0, 1)) rfl ?_
  refine g_getI (by decide +kernel : decode prog_2_method_3_code 46 = .ok (.getfield 44, 3)) fl_Ac_44.get rfl rfl ?_
  refine g_top (w := nI r) (rfl) ?_
  refine g_bipush (v := nI 30) (by decide +kernel : decode prog_2_method_3_code 49 = .ok (.bipush 30, 2)) (by decide) ?_
  refine g_icmp_geN (tgt := 72) (by decide +kernel : decode prog_2_method_3_code 51 = .ok (.if_icmp .ge 21, 3)) (by decide) (by omega) (by decide) (fun h => absurd h (by omega)) (fun _ => ?_)
  refine g_aload_n (by decide +kernel : decode prog_2_method_3_code 54 = .ok (.aload_n 0, 1)) rfl ?_
  refine g_getR (by decide +kernel : decode prog_2_method_3_code 55 = .ok (.getfield 9, 3)) fl_Ac_9 rfl rfl ?_
  refine g_aload_n (by decide +kernel : decode prog_2_method_3_code 58 = .ok (.aload_n 0, 1)) rfl ?_
  refine g_dup (by decide +kernel : decode prog_2_method_3_code 59 = .ok (.dup, 1)) rfl ?_
  refine g_getI (by decide +kernel : decode prog_2_method_3_code 60 = .ok (.getfield 44, 3)) fl_Ac_44.get rfl rfl ?_
  refine g_top (w := nI r) (rfl) ?_
  refine g_dup_x1 (by decide +kernel : decode prog_2_method_3_code 63 = .ok (.dup_x1, 1)) rfl rfl ?_
  refine g_iconst (v := nI 1) (by decide +kernel : decode prog_2_method_3_code 64 = .ok (.iconst 1, 1)) (by decide) ?_
  refine g_iaddN (by decide +kernel : decode prog_2_method_3_code 65 = .ok (.iadd, 1)) ?_
  refine g_putI (by decide +kernel : decode prog_2_method_3_code 66 = .ok (.putfield 44, 3)) fl_Ac_44 rfl rfl ?_
  refine g_sto (bS_r _ _ _ _ _) ?_
  refine g_iload (by decide +kernel : decode prog_2_method_3_code 69 = .ok (.iload 6, 2)) rfl ?_
  refine g_iastore (a := r) (by decide +kernel : decode prog_2_method_3_code 71 = .ok (.iastore, 1)) rfl rfl (by omega) (by decide) ?_
  refine g_sto (bS_1 _ _ _ _ _ _) ?_
  refine g_iload (by decide +kernel : decode prog_2_method_3_code 72 = .ok (.iload 4, 2)) rfl ?_
  refine g_iconst (v := nI 1) (by decide +kernel : decode prog_2_method_3_code 74 = .ok (.iconst 1, 1)) (by decide) ?_
  refine g_iaddN (by decide +kernel : decode prog_2_method_3_code 75 = .ok (.iadd, 1)) ?_
  refine g_istore (L' := [some (.ref 0), some (.int (nI 5)), some (.int (nI 1)), some (.int x), some (.int (nI d)), some (.int (nI 21)), some (.int (nI 11)), some (.int (nI (d + 1)))]) (by decide +kernel : decode prog_2_method_3_code 76 = .ok (.istore 7, 2)) (Nat.le_of_ble_eq_true rfl) rfl ?_
  refine g_iload (by decide +kernel : decode prog_2_method_3_code 78 = .ok (.iload 6, 2)) rfl ?_
  refine g_tableIn (x := nI 11) (off := 233) (tgt := 313) (by decide +kernel : decode prog_2_method_3_code 80 = .ok (.tableswitch 442 10 61 #[224, 233, 253, 268, 442, 442, 442, 442, 442, 442, 284, 442, 442, 442, 442, 442, 442, 442, 442, 442, 296, 308, 442, 442, 442, 442, 442, 442, 442, 442, 334, 346, 442, 442, 442, 442, 442, 442, 442, 442, 372, 389, 442, 442, 442, 442, 442, 442, 442, 442, 404, 416], 224)) (by decide) (by decide) rfl (by decide) ?_
  refine g_aload_n (by decide +kernel : decode prog_2_method_3_code 313 = .ok (.aload_n 0, 1)) rfl ?_
  refine g_aload_n (by decide +kernel : decode prog_2_method_3_code 314 = .ok (.aload_n 0, 1)) rfl ?_
  refine g_getI (by decide +kernel : decode prog_2_method_3_code 315 = .ok (.getfield 24, 3)) fl_Ac_24.get rfl rfl ?_
  refine g_top (w := nI 5) (hk) ?_
  refine g_iconst (v := nI 0) (by decide +kernel : decode prog_2_method_3_code 318 = .ok (.iconst 0, 1)) (by decide) ?_
  refine g_iload_n (by decide +kernel : decode prog_2_method_3_code 319 = .ok (.iload_n 3, 1)) rfl ?_
  refine g_iload (by decide +kernel : decode prog_2_method_3_code 320 = .ok (.iload 7, 2)) rfl ?_
  refine g_callVI [.int (nI 5), .int (nI 0), .int x, .int (nI (d + 1))] (by decide +kernel : decode prog_2_method_3_code 322 = .ok (.invokevirtual 37, 3)) lk_Ac_37 (r_5_5_0 σ (upd B r (nI 11)) (r + 1) (x) hk hn ha (d := (d + 1)) (by omega) (by omega)) rfl rfl rfl rfl (Nat.le_of_ble_eq_true rfl) (Nat.le_of_ble_eq_true rfl) (fun r322 s322 h322 => ?_)
  obtain ⟨rfl, rfl⟩ := h322
  refine g_iconst (v := nI 2) (by decide +kernel : decode prog_2_method_3_code 325 = .ok (.iconst 2, 1)) (by decide) ?_
  refine g_imul (by decide +kernel : decode prog_2_method_3_code 326 = .ok (.imul, 1)) ?_
  refine g_aload_n (by decide +kernel : decode prog_2_method_3_code 327 = .ok (.aload_n 0, 1)) rfl ?_
  refine g_getI (by decide +kernel : decode prog_2_method_3_code 328 = .ok (.getfield 34, 3)) fl_Ac_34.get rfl rfl ?_
  refine g_top (w := nI a) (ha) ?_
  refine g_isub (by decide +kernel : decode prog_2_method_3_code 331 = .ok (.isub, 1)) ?_
  exact g_iret hR (by decide +kernel : decode prog_2_method_3_code 332 = .ok (.ireturn, 1)) rfl ⟨_, rfl, ⟨rfl, rfl⟩⟩
set_option maxRecDepth 20000 in
theorem r_5_0_2e (σ : Store) (B : Row) (r : Nat) (x : Int32) {n a : Nat} (hk : σ 0 2 = nI 5) (hn : σ 0 3 = nI n) (ha : σ 0 4 = nI a) {d : Nat} (hd : d + 1 ≤ 12) (hr : r + 1 ≤ 30) (hn7 : n ≤ 7) (ha9 : a ≤ 9) (hna : n = a) : Ct ΛA mt_Ac_run 1 [.ref 0, .int (nI 0), .int (nI 2), .int x, .int (nI d)] (bS σ B r 0) (PF (pP n a x) (bS σ (wl B r [nI 12]) (r + 1) 1)) := by
  refine Ct.of (by decide) (Nat.le_of_ble_eq_true rfl) (fun X hR => ?_)
  show G (ΛA, mt_Ac_run, 1) X (bS σ B r 0) [some (.ref 0), some (.int (nI 0)), some (.int (nI 2)), some (.int x), some (.int (nI d)), none, none, none] [] 0
  refine g_iload_n (by decide +kernel : decode prog_2_method_3_code 0 = .ok (.iload_n 1, 1)) rfl ?_
  refine g_iconst (v := nI 4) (by decide +kernel : decode prog_2_method_3_code 1 = .ok (.iconst 4, 1)) (by decide) ?_
  refine g_imulN (by decide +kernel : decode prog_2_method_3_code 2 = .ok (.imul, 1)) ?_
  refine g_iload_n (by decide +kernel : decode prog_2_method_3_code 3 = .ok (.iload_n 2, 1)) rfl ?_
  refine g_iadd (by decide +kernel : decode prog_2_method_3_code 4 = .ok (.iadd, 1)) ?_
  refine g_top (w := nI 2) (by decide) ?_
  refine g_istore (L' := [some (.ref 0), some (.int (nI 0)), some (.int (nI 2)), some (.int x), some (.int (nI d)), some (.int (nI 2)), none, none]) (by decide +kernel : decode prog_2_method_3_code 5 = .ok (.istore 5, 2)) (Nat.le_of_ble_eq_true rfl) rfl ?_
  refine g_iload (by decide +kernel : decode prog_2_method_3_code 7 = .ok (.iload 4, 2)) rfl ?_
  refine g_bipush (v := nI 12) (by decide +kernel : decode prog_2_method_3_code 9 = .ok (.bipush 12, 2)) (by decide) ?_
  refine g_icmp_gtN (tgt := 35) (by decide +kernel : decode prog_2_method_3_code 11 = .ok (.if_icmp .gt 24, 3)) (by decide) (by omega) (by decide) (fun h => absurd h (by omega)) (fun _ => ?_)
  refine g_aload_n (by decide +kernel : decode prog_2_method_3_code 14 = .ok (.aload_n 0, 1)) rfl ?_
  refine g_getI (by decide +kernel : decode prog_2_method_3_code 15 = .ok (.getfield 15, 3)) fl_Ac_15.get rfl rfl ?_
  refine g_top (w := nI 0) (rfl) ?_
  refine g_if_neN (tgt := 35) (by decide +kernel : decode prog_2_method_3_code 18 = .ok (.ifCond .ne 17, 3)) (by decide) (by decide) (fun h => False.elim (by revert h; decide)) (fun _ => ?_)
  refine g_iload (by decide +kernel : decode prog_2_method_3_code 21 = .ok (.iload 5, 2)) rfl ?_
  refine g_if_ltN (by decide +kernel : decode prog_2_method_3_code 23 = .ok (.ifCond .lt 12, 3)) (by decide) (by decide) ?_
  refine g_iload (by decide +kernel : decode prog_2_method_3_code 26 = .ok (.iload 5, 2)) rfl ?_
  refine g_gets (j := 3) (by decide +kernel : decode prog_2_method_3_code 28 = .ok (.getstatic 41, 3)) (by decide) sl_Ac_41 ?_
  refine g_rolen (j := 3) (by decide +kernel : decode prog_2_method_3_code 31 = .ok (.arraylength, 1)) (by decide) ?_
  refine g_icmp_ltN (tgt := 37) (by decide +kernel : decode prog_2_method_3_code 32 = .ok (.if_icmp .lt 5, 3)) (by decide) (by decide) (by decide) (fun _ => ?_) (fun h => absurd (by decide) h)
  refine g_gets (j := 3) (by decide +kernel : decode prog_2_method_3_code 37 = .ok (.getstatic 41, 3)) (by decide) sl_Ac_41 ?_
  refine g_iload (by decide +kernel : decode prog_2_method_3_code 40 = .ok (.iload 5, 2)) rfl ?_
  refine g_roload (j := 3) (a := 2) (by decide +kernel : decode prog_2_method_3_code 42 = .ok (.iaload, 1)) (by decide) rfl (by decide) ?_
  refine g_top (w := nI 12) (rfl) ?_
  refine g_istore (L' := [some (.ref 0), some (.int (nI 0)), some (.int (nI 2)), some (.int x), some (.int (nI d)), some (.int (nI 2)), some (.int (nI 12)), none]) (by decide +kernel : decode prog_2_method_3_code 43 = .ok (.istore 6, 2)) (Nat.le_of_ble_eq_true rfl) rfl ?_
  refine g_aload_n (by decide +kernel : decode prog_2_method_3_code 45 = .ok (.aload_n 0, 1)) rfl ?_
  refine g_getI (by decide +kernel : decode prog_2_method_3_code 46 = .ok (.getfield 44, 3)) fl_Ac_44.get rfl rfl ?_
  refine g_top (w := nI r) (rfl) ?_
  refine g_bipush (v := nI 30) (by decide +kernel : decode prog_2_method_3_code 49 = .ok (.bipush 30, 2)) (by decide) ?_
  refine g_icmp_geN (tgt := 72) (by decide +kernel : decode prog_2_method_3_code 51 = .ok (.if_icmp .ge 21, 3)) (by decide) (by omega) (by decide) (fun h => absurd h (by omega)) (fun _ => ?_)
  refine g_aload_n (by decide +kernel : decode prog_2_method_3_code 54 = .ok (.aload_n 0, 1)) rfl ?_
  refine g_getR (by decide +kernel : decode prog_2_method_3_code 55 = .ok (.getfield 9, 3)) fl_Ac_9 rfl rfl ?_
  refine g_aload_n (by decide +kernel : decode prog_2_method_3_code 58 = .ok (.aload_n 0, 1)) rfl ?_
  refine g_dup (by decide +kernel : decode prog_2_method_3_code 59 = .ok (.dup, 1)) rfl ?_
  refine g_getI (by decide +kernel : decode prog_2_method_3_code 60 = .ok (.getfield 44, 3)) fl_Ac_44.get rfl rfl ?_
  refine g_top (w := nI r) (rfl) ?_
  refine g_dup_x1 (by decide +kernel : decode prog_2_method_3_code 63 = .ok (.dup_x1, 1)) rfl rfl ?_
  refine g_iconst (v := nI 1) (by decide +kernel : decode prog_2_method_3_code 64 = .ok (.iconst 1, 1)) (by decide) ?_
  refine g_iaddN (by decide +kernel : decode prog_2_method_3_code 65 = .ok (.iadd, 1)) ?_
  refine g_putI (by decide +kernel : decode prog_2_method_3_code 66 = .ok (.putfield 44, 3)) fl_Ac_44 rfl rfl ?_
  refine g_sto (bS_r _ _ _ _ _) ?_
  refine g_iload (by decide +kernel : decode prog_2_method_3_code 69 = .ok (.iload 6, 2)) rfl ?_
  refine g_iastore (a := r) (by decide +kernel : decode prog_2_method_3_code 71 = .ok (.iastore, 1)) rfl rfl (by omega) (by decide) ?_
  refine g_sto (bS_1 _ _ _ _ _ _) ?_
  refine g_iload (by decide +kernel : decode prog_2_method_3_code 72 = .ok (.iload 4, 2)) rfl ?_
  refine g_iconst (v := nI 1) (by decide +kernel : decode prog_2_method_3_code 74 = .ok (.iconst 1, 1)) (by decide) ?_
  refine g_iaddN (by decide +kernel : decode prog_2_method_3_code 75 = .ok (.iadd, 1)) ?_
  refine g_istore (L' := [some (.ref 0), some (.int (nI 0)), some (.int (nI 2)), some (.int x), some (.int (nI d)), some (.int (nI 2)), some (.int (nI 12)), some (.int (nI (d + 1)))]) (by decide +kernel : decode prog_2_method_3_code 76 = .ok (.istore 7, 2)) (Nat.le_of_ble_eq_true rfl) rfl ?_
  refine g_iload (by decide +kernel : decode prog_2_method_3_code 78 = .ok (.iload 6, 2)) rfl ?_
  refine g_tableIn (x := nI 12) (off := 253) (tgt := 333) (by decide +kernel : decode prog_2_method_3_code 80 = .ok (.tableswitch 442 10 61 #[224, 233, 253, 268, 442, 442, 442, 442, 442, 442, 284, 442, 442, 442, 442, 442, 442, 442, 442, 442, 296, 308, 442, 442, 442, 442, 442, 442, 442, 442, 334, 346, 442, 442, 442, 442, 442, 442, 442, 442, 372, 389, 442, 442, 442, 442, 442, 442, 442, 442, 404, 416], 224)) (by decide) (by decide) rfl (by decide) ?_
  refine g_aload_n (by decide +kernel : decode prog_2_method_3_code 333 = .ok (.aload_n 0, 1)) rfl ?_
  refine g_iload_n (by decide +kernel : decode prog_2_method_3_code 334 = .ok (.iload_n 3, 1)) rfl ?_
  refine g_aload_n (by decide +kernel : decode prog_2_method_3_code 335 = .ok (.aload_n 0, 1)) rfl ?_
  refine g_getI (by decide +kernel : decode prog_2_method_3_code 336 = .ok (.getfield 34, 3)) fl_Ac_34.get rfl rfl ?_
  refine g_top (w := nI a) (ha) ?_
  refine g_aload_n (by decide +kernel : decode prog_2_method_3_code 339 = .ok (.aload_n 0, 1)) rfl ?_
  refine g_getI (by decide +kernel : decode prog_2_method_3_code 340 = .ok (.getfield 28, 3)) fl_Ac_28.get rfl rfl ?_
  refine g_top (w := nI n) (hn) ?_
  refine g_isub (by decide +kernel : decode prog_2_method_3_code 343 = .ok (.isub, 1)) ?_
  refine g_callVI [.int x, .int ((nI a) - (nI n))] (by decide +kernel : decode prog_2_method_3_code 344 = .ok (.invokevirtual 47, 3)) lk_Ac_47 (r_quote σ (upd B r (nI 12)) (r + 1) (x) hn7 ha9 hna) rfl rfl rfl rfl (Nat.le_of_ble_eq_true rfl) (Nat.le_of_ble_eq_true rfl) (fun r344 s344 h344 => ?_)
  obtain ⟨rfl, rfl⟩ := h344
  exact g_iret hR (by decide +kernel : decode prog_2_method_3_code 347 = .ok (.ireturn, 1)) rfl ⟨_, rfl, ⟨rfl, rfl⟩⟩
set_option maxRecDepth 20000 in
theorem r_5_5_2e (σ : Store) (B : Row) (r : Nat) (x : Int32) {n a : Nat} (hk : σ 0 2 = nI 5) (hn : σ 0 3 = nI n) (ha : σ 0 4 = nI a) {d : Nat} (hd : d + 2 ≤ 12) (hr : r + 2 ≤ 30) (hn7 : n ≤ 7) (ha9 : a ≤ 9) (hna : n = a) : Ct ΛA mt_Ac_run 2 [.ref 0, .int (nI 5), .int (nI 2), .int x, .int (nI d)] (bS σ B r 0) (PF ((pP n a x) ^^^ (nI 0)) (bS σ (wl B r [nI 61, nI 12]) (r + 2) 1)) := by
  refine Ct.of (by decide) (Nat.le_of_ble_eq_true rfl) (fun X hR => ?_)
  show G (ΛA, mt_Ac_run, 2) X (bS σ B r 0) [some (.ref 0), some (.int (nI 5)), some (.int (nI 2)), some (.int x), some (.int (nI d)), none, none, none] [] 0
  refine g_iload_n (by decide +kernel : decode prog_2_method_3_code 0 = .ok (.iload_n 1, 1)) rfl ?_
  refine g_iconst (v := nI 4) (by decide +kernel : decode prog_2_method_3_code 1 = .ok (.iconst 4, 1)) (by decide) ?_
  refine g_imulN (by decide +kernel : decode prog_2_method_3_code 2 = .ok (.imul, 1)) ?_
  refine g_iload_n (by decide +kernel : decode prog_2_method_3_code 3 = .ok (.iload_n 2, 1)) rfl ?_
  refine g_iadd (by decide +kernel : decode prog_2_method_3_code 4 = .ok (.iadd, 1)) ?_
  refine g_top (w := nI 22) (by decide) ?_
  refine g_istore (L' := [some (.ref 0), some (.int (nI 5)), some (.int (nI 2)), some (.int x), some (.int (nI d)), some (.int (nI 22)), none, none]) (by decide +kernel : decode prog_2_method_3_code 5 = .ok (.istore 5, 2)) (Nat.le_of_ble_eq_true rfl) rfl ?_
  refine g_iload (by decide +kernel : decode prog_2_method_3_code 7 = .ok (.iload 4, 2)) rfl ?_
  refine g_bipush (v := nI 12) (by decide +kernel : decode prog_2_method_3_code 9 = .ok (.bipush 12, 2)) (by decide) ?_
  refine g_icmp_gtN (tgt := 35) (by decide +kernel : decode prog_2_method_3_code 11 = .ok (.if_icmp .gt 24, 3)) (by decide) (by omega) (by decide) (fun h => absurd h (by omega)) (fun _ => ?_)
  refine g_aload_n (by decide +kernel : decode prog_2_method_3_code 14 = .ok (.aload_n 0, 1)) rfl ?_
  refine g_getI (by decide +kernel : decode prog_2_method_3_code 15 = .ok (.getfield 15, 3)) fl_Ac_15.get rfl rfl ?_
  refine g_top (w := nI 0) (rfl) ?_
  refine g_if_neN (tgt := 35) (by decide +kernel : decode prog_2_method_3_code 18 = .ok (.ifCond .ne 17, 3)) (by decide) (by decide) (fun h => False.elim (by revert h; decide)) (fun _ => ?_)
  refine g_iload (by decide +kernel : decode prog_2_method_3_code 21 = .ok (.iload 5, 2)) rfl ?_
  refine g_if_ltN (by decide +kernel : decode prog_2_method_3_code 23 = .ok (.ifCond .lt 12, 3)) (by decide) (by decide) ?_
  refine g_iload (by decide +kernel : decode prog_2_method_3_code 26 = .ok (.iload 5, 2)) rfl ?_
  refine g_gets (j := 3) (by decide +kernel : decode prog_2_method_3_code 28 = .ok (.getstatic 41, 3)) (by decide) sl_Ac_41 ?_
  refine g_rolen (j := 3) (by decide +kernel : decode prog_2_method_3_code 31 = .ok (.arraylength, 1)) (by decide) ?_
  refine g_icmp_ltN (tgt := 37) (by decide +kernel : decode prog_2_method_3_code 32 = .ok (.if_icmp .lt 5, 3)) (by decide) (by decide) (by decide) (fun _ => ?_) (fun h => absurd (by decide) h)
  refine g_gets (j := 3) (by decide +kernel : decode prog_2_method_3_code 37 = .ok (.getstatic 41, 3)) (by decide) sl_Ac_41 ?_
  refine g_iload (by decide +kernel : decode prog_2_method_3_code 40 = .ok (.iload 5, 2)) rfl ?_
  refine g_roload (j := 3) (a := 22) (by decide +kernel : decode prog_2_method_3_code 42 = .ok (.iaload, 1)) (by decide) rfl (by decide) ?_
  refine g_top (w := nI 61) (rfl) ?_
  refine g_istore (L' := [some (.ref 0), some (.int (nI 5)), some (.int (nI 2)), some (.int x), some (.int (nI d)), some (.int (nI 22)), some (.int (nI 61)), none]) (by decide +kernel : decode prog_2_method_3_code 43 = .ok (.istore 6, 2)) (Nat.le_of_ble_eq_true rfl) rfl ?_
  refine g_aload_n (by decide +kernel : decode prog_2_method_3_code 45 = .ok (.aload_n 0, 1)) rfl ?_
  refine g_getI (by decide +kernel : decode prog_2_method_3_code 46 = .ok (.getfield 44, 3)) fl_Ac_44.get rfl rfl ?_
  refine g_top (w := nI r) (rfl) ?_
  refine g_bipush (v := nI 30) (by decide +kernel : decode prog_2_method_3_code 49 = .ok (.bipush 30, 2)) (by decide) ?_
  refine g_icmp_geN (tgt := 72) (by decide +kernel : decode prog_2_method_3_code 51 = .ok (.if_icmp .ge 21, 3)) (by decide) (by omega) (by decide) (fun h => absurd h (by omega)) (fun _ => ?_)
  refine g_aload_n (by decide +kernel : decode prog_2_method_3_code 54 = .ok (.aload_n 0, 1)) rfl ?_
  refine g_getR (by decide +kernel : decode prog_2_method_3_code 55 = .ok (.getfield 9, 3)) fl_Ac_9 rfl rfl ?_
  refine g_aload_n (by decide +kernel : decode prog_2_method_3_code 58 = .ok (.aload_n 0, 1)) rfl ?_
  refine g_dup (by decide +kernel : decode prog_2_method_3_code 59 = .ok (.dup, 1)) rfl ?_
  refine g_getI (by decide +kernel : decode prog_2_method_3_code 60 = .ok (.getfield 44, 3)) fl_Ac_44.get rfl rfl ?_
  refine g_top (w := nI r) (rfl) ?_
  refine g_dup_x1 (by decide +kernel : decode prog_2_method_3_code 63 = .ok (.dup_x1, 1)) rfl rfl ?_
  refine g_iconst (v := nI 1) (by decide +kernel : decode prog_2_method_3_code 64 = .ok (.iconst 1, 1)) (by decide) ?_
  refine g_iaddN (by decide +kernel : decode prog_2_method_3_code 65 = .ok (.iadd, 1)) ?_
  refine g_putI (by decide +kernel : decode prog_2_method_3_code 66 = .ok (.putfield 44, 3)) fl_Ac_44 rfl rfl ?_
  refine g_sto (bS_r _ _ _ _ _) ?_
  refine g_iload (by decide +kernel : decode prog_2_method_3_code 69 = .ok (.iload 6, 2)) rfl ?_
  refine g_iastore (a := r) (by decide +kernel : decode prog_2_method_3_code 71 = .ok (.iastore, 1)) rfl rfl (by omega) (by decide) ?_
  refine g_sto (bS_1 _ _ _ _ _ _) ?_
  refine g_iload (by decide +kernel : decode prog_2_method_3_code 72 = .ok (.iload 4, 2)) rfl ?_
  refine g_iconst (v := nI 1) (by decide +kernel : decode prog_2_method_3_code 74 = .ok (.iconst 1, 1)) (by decide) ?_
  refine g_iaddN (by decide +kernel : decode prog_2_method_3_code 75 = .ok (.iadd, 1)) ?_
  refine g_istore (L' := [some (.ref 0), some (.int (nI 5)), some (.int (nI 2)), some (.int x), some (.int (nI d)), some (.int (nI 22)), some (.int (nI 61)), some (.int (nI (d + 1)))]) (by decide +kernel : decode prog_2_method_3_code 76 = .ok (.istore 7, 2)) (Nat.le_of_ble_eq_true rfl) rfl ?_
  refine g_iload (by decide +kernel : decode prog_2_method_3_code 78 = .ok (.iload 6, 2)) rfl ?_
  refine g_tableIn (x := nI 61) (off := 416) (tgt := 496) (by decide +kernel : decode prog_2_method_3_code 80 = .ok (.tableswitch 442 10 61 #[224, 233, 253, 268, 442, 442, 442, 442, 442, 442, 284, 442, 442, 442, 442, 442, 442, 442, 442, 442, 296, 308, 442, 442, 442, 442, 442, 442, 442, 442, 334, 346, 442, 442, 442, 442, 442, 442, 442, 442, 372, 389, 442, 442, 442, 442, 442, 442, 442, 442, 404, 416], 224)) (by decide) (by decide) rfl (by decide) ?_
  refine g_aload_n (by decide +kernel : decode prog_2_method_3_code 496 = .ok (.aload_n 0, 1)) rfl ?_
  refine g_iconst (v := nI 0) (by decide +kernel : decode prog_2_method_3_code 497 = .ok (.iconst 0, 1)) (by decide) ?_
  refine g_iconst (v := nI 2) (by decide +kernel : decode prog_2_method_3_code 498 = .ok (.iconst 2, 1)) (by decide) ?_
  refine g_iload_n (by decide +kernel : decode prog_2_method_3_code 499 = .ok (.iload_n 3, 1)) rfl ?_
  refine g_iload (by decide +kernel : decode prog_2_method_3_code 500 = .ok (.iload 7, 2)) rfl ?_
  refine g_callVI [.int (nI 0), .int (nI 2), .int x, .int (nI (d + 1))] (by decide +kernel : decode prog_2_method_3_code 502 = .ok (.invokevirtual 37, 3)) lk_Ac_37 (r_5_0_2e σ (upd B r (nI 61)) (r + 1) (x) hk hn ha (d := (d + 1)) (by omega) (by omega) hn7 ha9 hna) rfl rfl rfl rfl (Nat.le_of_ble_eq_true rfl) (Nat.le_of_ble_eq_true rfl) (fun r502 s502 h502 => ?_)
  obtain ⟨rfl, rfl⟩ := h502
  refine g_aload_n (by decide +kernel : decode prog_2_method_3_code 505 = .ok (.aload_n 0, 1)) rfl ?_
  refine g_aload_n (by decide +kernel : decode prog_2_method_3_code 506 = .ok (.aload_n 0, 1)) rfl ?_
  refine g_getI (by decide +kernel : decode prog_2_method_3_code 507 = .ok (.getfield 24, 3)) fl_Ac_24.get rfl rfl ?_
  refine g_top (w := nI 5) (hk) ?_
  refine g_iconst (v := nI 0) (by decide +kernel : decode prog_2_method_3_code 510 = .ok (.iconst 0, 1)) (by decide) ?_
  refine g_aload_n (by decide +kernel : decode prog_2_method_3_code 511 = .ok (.aload_n 0, 1)) rfl ?_
  refine g_getI (by decide +kernel : decode prog_2_method_3_code 512 = .ok (.getfield 28, 3)) fl_Ac_28.get rfl rfl ?_
  refine g_top (w := nI n) (hn) ?_
  refine g_iload (by decide +kernel : decode prog_2_method_3_code 515 = .ok (.iload 7, 2)) rfl ?_
  refine g_callVI [.int (nI 5), .int (nI 0), .int (nI n), .int (nI (d + 1))] (by decide +kernel : decode prog_2_method_3_code 517 = .ok (.invokevirtual 37, 3)) lk_Ac_37 (r_stop (D := 1) σ (wl (upd B r (nI 61)) (r + 1) [nI 12]) (r + 1 + 1) 5 0 (nI n) (d := (d + 1)) (by omega)) rfl rfl rfl rfl (Nat.le_of_ble_eq_true rfl) (Nat.le_of_ble_eq_true rfl) (fun r517 s517 h517 => ?_)
  obtain ⟨rfl, rfl⟩ := h517
  refine g_ixor (by decide +kernel : decode prog_2_method_3_code 520 = .ok (.ixor, 1)) ?_
  exact g_iret hR (by decide +kernel : decode prog_2_method_3_code 521 = .ok (.ireturn, 1)) rfl ⟨_, rfl, ⟨rfl, rfl⟩⟩
set_option maxRecDepth 20000 in
theorem r_5_0_2d (σ : Store) (B : Row) (r : Nat) (x : Int32) {n a : Nat} (hk : σ 0 2 = nI 5) (hn : σ 0 3 = nI n) (ha : σ 0 4 = nI a) {d : Nat} (hd : d + 1 ≤ 12) (hr : r + 1 ≤ 30) (hn7 : n ≤ 7) (ha9 : a ≤ 9) (hna : n ≠ a) : Ct ΛA mt_Ac_run 1 [.ref 0, .int (nI 0), .int (nI 2), .int x, .int (nI d)] (bS σ B r 0) (PF (pP n a x) (bS σ (wl B r [nI 12]) (r + 1) 0)) := by
  refine Ct.of (by decide) (Nat.le_of_ble_eq_true rfl) (fun X hR => ?_)
  show G (ΛA, mt_Ac_run, 1) X (bS σ B r 0) [some (.ref 0), some (.int (nI 0)), some (.int (nI 2)), some (.int x), some (.int (nI d)), none, none, none] [] 0
  refine g_iload_n (by decide +kernel : decode prog_2_method_3_code 0 = .ok (.iload_n 1, 1)) rfl ?_
  refine g_iconst (v := nI 4) (by decide +kernel : decode prog_2_method_3_code 1 = .ok (.iconst 4, 1)) (by decide) ?_
  refine g_imulN (by decide +kernel : decode prog_2_method_3_code 2 = .ok (.imul, 1)) ?_
  refine g_iload_n (by decide +kernel : decode prog_2_method_3_code 3 = .ok (.iload_n 2, 1)) rfl ?_
  refine g_iadd (by decide +kernel : decode prog_2_method_3_code 4 = .ok (.iadd, 1)) ?_
  refine g_top (w := nI 2) (by decide) ?_
  refine g_istore (L' := [some (.ref 0), some (.int (nI 0)), some (.int (nI 2)), some (.int x), some (.int (nI d)), some (.int (nI 2)), none, none]) (by decide +kernel : decode prog_2_method_3_code 5 = .ok (.istore 5, 2)) (Nat.le_of_ble_eq_true rfl) rfl ?_
  refine g_iload (by decide +kernel : decode prog_2_method_3_code 7 = .ok (.iload 4, 2)) rfl ?_
  refine g_bipush (v := nI 12) (by decide +kernel : decode prog_2_method_3_code 9 = .ok (.bipush 12, 2)) (by decide) ?_
  refine g_icmp_gtN (tgt := 35) (by decide +kernel : decode prog_2_method_3_code 11 = .ok (.if_icmp .gt 24, 3)) (by decide) (by omega) (by decide) (fun h => absurd h (by omega)) (fun _ => ?_)
  refine g_aload_n (by decide +kernel : decode prog_2_method_3_code 14 = .ok (.aload_n 0, 1)) rfl ?_
  refine g_getI (by decide +kernel : decode prog_2_method_3_code 15 = .ok (.getfield 15, 3)) fl_Ac_15.get rfl rfl ?_
  refine g_top (w := nI 0) (rfl) ?_
  refine g_if_neN (tgt := 35) (by decide +kernel : decode prog_2_method_3_code 18 = .ok (.ifCond .ne 17, 3)) (by decide) (by decide) (fun h => False.elim (by revert h; decide)) (fun _ => ?_)
  refine g_iload (by decide +kernel : decode prog_2_method_3_code 21 = .ok (.iload 5, 2)) rfl ?_
  refine g_if_ltN (by decide +kernel : decode prog_2_method_3_code 23 = .ok (.ifCond .lt 12, 3)) (by decide) (by decide) ?_
  refine g_iload (by decide +kernel : decode prog_2_method_3_code 26 = .ok (.iload 5, 2)) rfl ?_
  refine g_gets (j := 3) (by decide +kernel : decode prog_2_method_3_code 28 = .ok (.getstatic 41, 3)) (by decide) sl_Ac_41 ?_
  refine g_rolen (j := 3) (by decide +kernel : decode prog_2_method_3_code 31 = .ok (.arraylength, 1)) (by decide) ?_
  refine g_icmp_ltN (tgt := 37) (by decide +kernel : decode prog_2_method_3_code 32 = .ok (.if_icmp .lt 5, 3)) (by decide) (by decide) (by decide) (fun _ => ?_) (fun h => absurd (by decide) h)
  refine g_gets (j := 3) (by decide +kernel : decode prog_2_method_3_code 37 = .ok (.getstatic 41, 3)) (by decide) sl_Ac_41 ?_
  refine g_iload (by decide +kernel : decode prog_2_method_3_code 40 = .ok (.iload 5, 2)) rfl ?_
  refine g_roload (j := 3) (a := 2) (by decide +kernel : decode prog_2_method_3_code 42 = .ok (.iaload, 1)) (by decide) rfl (by decide) ?_
  refine g_top (w := nI 12) (rfl) ?_
  refine g_istore (L' := [some (.ref 0), some (.int (nI 0)), some (.int (nI 2)), some (.int x), some (.int (nI d)), some (.int (nI 2)), some (.int (nI 12)), none]) (by decide +kernel : decode prog_2_method_3_code 43 = .ok (.istore 6, 2)) (Nat.le_of_ble_eq_true rfl) rfl ?_
  refine g_aload_n (by decide +kernel : decode prog_2_method_3_code 45 = .ok (.aload_n 0, 1)) rfl ?_
  refine g_getI (by decide +kernel : decode prog_2_method_3_code 46 = .ok (.getfield 44, 3)) fl_Ac_44.get rfl rfl ?_
  refine g_top (w := nI r) (rfl) ?_
  refine g_bipush (v := nI 30) (by decide +kernel : decode prog_2_method_3_code 49 = .ok (.bipush 30, 2)) (by decide) ?_
  refine g_icmp_geN (tgt := 72) (by decide +kernel : decode prog_2_method_3_code 51 = .ok (.if_icmp .ge 21, 3)) (by decide) (by omega) (by decide) (fun h => absurd h (by omega)) (fun _ => ?_)
  refine g_aload_n (by decide +kernel : decode prog_2_method_3_code 54 = .ok (.aload_n 0, 1)) rfl ?_
  refine g_getR (by decide +kernel : decode prog_2_method_3_code 55 = .ok (.getfield 9, 3)) fl_Ac_9 rfl rfl ?_
  refine g_aload_n (by decide +kernel : decode prog_2_method_3_code 58 = .ok (.aload_n 0, 1)) rfl ?_
  refine g_dup (by decide +kernel : decode prog_2_method_3_code 59 = .ok (.dup, 1)) rfl ?_
  refine g_getI (by decide +kernel : decode prog_2_method_3_code 60 = .ok (.getfield 44, 3)) fl_Ac_44.get rfl rfl ?_
  refine g_top (w := nI r) (rfl) ?_
  refine g_dup_x1 (by decide +kernel : decode prog_2_method_3_code 63 = .ok (.dup_x1, 1)) rfl rfl ?_
  refine g_iconst (v := nI 1) (by decide +kernel : decode prog_2_method_3_code 64 = .ok (.iconst 1, 1)) (by decide) ?_
  refine g_iaddN (by decide +kernel : decode prog_2_method_3_code 65 = .ok (.iadd, 1)) ?_
  refine g_putI (by decide +kernel : decode prog_2_method_3_code 66 = .ok (.putfield 44, 3)) fl_Ac_44 rfl rfl ?_
  refine g_sto (bS_r _ _ _ _ _) ?_
  refine g_iload (by decide +kernel : decode prog_2_method_3_code 69 = .ok (.iload 6, 2)) rfl ?_
  refine g_iastore (a := r) (by decide +kernel : decode prog_2_method_3_code 71 = .ok (.iastore, 1)) rfl rfl (by omega) (by decide) ?_
  refine g_sto (bS_1 _ _ _ _ _ _) ?_
  refine g_iload (by decide +kernel : decode prog_2_method_3_code 72 = .ok (.iload 4, 2)) rfl ?_
  refine g_iconst (v := nI 1) (by decide +kernel : decode prog_2_method_3_code 74 = .ok (.iconst 1, 1)) (by decide) ?_
  refine g_iaddN (by decide +kernel : decode prog_2_method_3_code 75 = .ok (.iadd, 1)) ?_
  refine g_istore (L' := [some (.ref 0), some (.int (nI 0)), some (.int (nI 2)), some (.int x), some (.int (nI d)), some (.int (nI 2)), some (.int (nI 12)), some (.int (nI (d + 1)))]) (by decide +kernel : decode prog_2_method_3_code 76 = .ok (.istore 7, 2)) (Nat.le_of_ble_eq_true rfl) rfl ?_
  refine g_iload (by decide +kernel : decode prog_2_method_3_code 78 = .ok (.iload 6, 2)) rfl ?_
  refine g_tableIn (x := nI 12) (off := 253) (tgt := 333) (by decide +kernel : decode prog_2_method_3_code 80 = .ok (.tableswitch 442 10 61 #[224, 233, 253, 268, 442, 442, 442, 442, 442, 442, 284, 442, 442, 442, 442, 442, 442, 442, 442, 442, 296, 308, 442, 442, 442, 442, 442, 442, 442, 442, 334, 346, 442, 442, 442, 442, 442, 442, 442, 442, 372, 389, 442, 442, 442, 442, 442, 442, 442, 442, 404, 416], 224)) (by decide) (by decide) rfl (by decide) ?_
  refine g_aload_n (by decide +kernel : decode prog_2_method_3_code 333 = .ok (.aload_n 0, 1)) rfl ?_
  refine g_iload_n (by decide +kernel : decode prog_2_method_3_code 334 = .ok (.iload_n 3, 1)) rfl ?_
  refine g_aload_n (by decide +kernel : decode prog_2_method_3_code 335 = .ok (.aload_n 0, 1)) rfl ?_
  refine g_getI (by decide +kernel : decode prog_2_method_3_code 336 = .ok (.getfield 34, 3)) fl_Ac_34.get rfl rfl ?_
  refine g_top (w := nI a) (ha) ?_
  refine g_aload_n (by decide +kernel : decode prog_2_method_3_code 339 = .ok (.aload_n 0, 1)) rfl ?_
  refine g_getI (by decide +kernel : decode prog_2_method_3_code 340 = .ok (.getfield 28, 3)) fl_Ac_28.get rfl rfl ?_
  refine g_top (w := nI n) (hn) ?_
  refine g_isub (by decide +kernel : decode prog_2_method_3_code 343 = .ok (.isub, 1)) ?_
  refine g_callVI [.int x, .int ((nI a) - (nI n))] (by decide +kernel : decode prog_2_method_3_code 344 = .ok (.invokevirtual 47, 3)) lk_Ac_47 (r_quotd σ (upd B r (nI 12)) (r + 1) (x) hn7 ha9 hna) rfl rfl rfl rfl (Nat.le_of_ble_eq_true rfl) (Nat.le_of_ble_eq_true rfl) (fun r344 s344 h344 => ?_)
  obtain ⟨rfl, rfl⟩ := h344
  exact g_iret hR (by decide +kernel : decode prog_2_method_3_code 347 = .ok (.ireturn, 1)) rfl ⟨_, rfl, ⟨rfl, rfl⟩⟩
set_option maxRecDepth 20000 in
theorem r_5_5_2d (σ : Store) (B : Row) (r : Nat) (x : Int32) {n a : Nat} (hk : σ 0 2 = nI 5) (hn : σ 0 3 = nI n) (ha : σ 0 4 = nI a) {d : Nat} (hd : d + 2 ≤ 12) (hr : r + 3 ≤ 30) (hn7 : n ≤ 7) (ha9 : a ≤ 9) (hna : n ≠ a) : Ct ΛA mt_Ac_run 2 [.ref 0, .int (nI 5), .int (nI 2), .int x, .int (nI d)] (bS σ B r 0) (PF ((pP n a x) ^^^ (nI n - nI (n * 2))) (bS σ (wl B r [nI 61, nI 12, nI 10]) (r + 3) 0)) := by
  refine Ct.of (by decide) (Nat.le_of_ble_eq_true rfl) (fun X hR => ?_)
  show G (ΛA, mt_Ac_run, 2) X (bS σ B r 0) [some (.ref 0), some (.int (nI 5)), some (.int (nI 2)), some (.int x), some (.int (nI d)), none, none, none] [] 0
  refine g_iload_n (by decide +kernel : decode prog_2_method_3_code 0 = .ok (.iload_n 1, 1)) rfl ?_
  refine g_iconst (v := nI 4) (by decide +kernel : decode prog_2_method_3_code 1 = .ok (.iconst 4, 1)) (by decide) ?_
  refine g_imulN (by decide +kernel : decode prog_2_method_3_code 2 = .ok (.imul, 1)) ?_
  refine g_iload_n (by decide +kernel : decode prog_2_method_3_code 3 = .ok (.iload_n 2, 1)) rfl ?_
  refine g_iadd (by decide +kernel : decode prog_2_method_3_code 4 = .ok (.iadd, 1)) ?_
  refine g_top (w := nI 22) (by decide) ?_
  refine g_istore (L' := [some (.ref 0), some (.int (nI 5)), some (.int (nI 2)), some (.int x), some (.int (nI d)), some (.int (nI 22)), none, none]) (by decide +kernel : decode prog_2_method_3_code 5 = .ok (.istore 5, 2)) (Nat.le_of_ble_eq_true rfl) rfl ?_
  refine g_iload (by decide +kernel : decode prog_2_method_3_code 7 = .ok (.iload 4, 2)) rfl ?_
  refine g_bipush (v := nI 12) (by decide +kernel : decode prog_2_method_3_code 9 = .ok (.bipush 12, 2)) (by decide) ?_
  refine g_icmp_gtN (tgt := 35) (by decide +kernel : decode prog_2_method_3_code 11 = .ok (.if_icmp .gt 24, 3)) (by decide) (by omega) (by decide) (fun h => absurd h (by omega)) (fun _ => ?_)
  refine g_aload_n (by decide +kernel : decode prog_2_method_3_code 14 = .ok (.aload_n 0, 1)) rfl ?_
  refine g_getI (by decide +kernel : decode prog_2_method_3_code 15 = .ok (.getfield 15, 3)) fl_Ac_15.get rfl rfl ?_
  refine g_top (w := nI 0) (rfl) ?_
  refine g_if_neN (tgt := 35) (by decide +kernel : decode prog_2_method_3_code 18 = .ok (.ifCond .ne 17, 3)) (by decide) (by decide) (fun h => False.elim (by revert h; decide)) (fun _ => ?_)
  refine g_iload (by decide +kernel : decode prog_2_method_3_code 21 = .ok (.iload 5, 2)) rfl ?_
  refine g_if_ltN (by decide +kernel : decode prog_2_method_3_code 23 = .ok (.ifCond .lt 12, 3)) (by decide) (by decide) ?_
  refine g_iload (by decide +kernel : decode prog_2_method_3_code 26 = .ok (.iload 5, 2)) rfl ?_
  refine g_gets (j := 3) (by decide +kernel : decode prog_2_method_3_code 28 = .ok (.getstatic 41, 3)) (by decide) sl_Ac_41 ?_
  refine g_rolen (j := 3) (by decide +kernel : decode prog_2_method_3_code 31 = .ok (.arraylength, 1)) (by decide) ?_
  refine g_icmp_ltN (tgt := 37) (by decide +kernel : decode prog_2_method_3_code 32 = .ok (.if_icmp .lt 5, 3)) (by decide) (by decide) (by decide) (fun _ => ?_) (fun h => absurd (by decide) h)
  refine g_gets (j := 3) (by decide +kernel : decode prog_2_method_3_code 37 = .ok (.getstatic 41, 3)) (by decide) sl_Ac_41 ?_
  refine g_iload (by decide +kernel : decode prog_2_method_3_code 40 = .ok (.iload 5, 2)) rfl ?_
  refine g_roload (j := 3) (a := 22) (by decide +kernel : decode prog_2_method_3_code 42 = .ok (.iaload, 1)) (by decide) rfl (by decide) ?_
  refine g_top (w := nI 61) (rfl) ?_
  refine g_istore (L' := [some (.ref 0), some (.int (nI 5)), some (.int (nI 2)), some (.int x), some (.int (nI d)), some (.int (nI 22)), some (.int (nI 61)), none]) (by decide +kernel : decode prog_2_method_3_code 43 = .ok (.istore 6, 2)) (Nat.le_of_ble_eq_true rfl) rfl ?_
  refine g_aload_n (by decide +kernel : decode prog_2_method_3_code 45 = .ok (.aload_n 0, 1)) rfl ?_
  refine g_getI (by decide +kernel : decode prog_2_method_3_code 46 = .ok (.getfield 44, 3)) fl_Ac_44.get rfl rfl ?_
  refine g_top (w := nI r) (rfl) ?_
  refine g_bipush (v := nI 30) (by decide +kernel : decode prog_2_method_3_code 49 = .ok (.bipush 30, 2)) (by decide) ?_
  refine g_icmp_geN (tgt := 72) (by decide +kernel : decode prog_2_method_3_code 51 = .ok (.if_icmp .ge 21, 3)) (by decide) (by omega) (by decide) (fun h => absurd h (by omega)) (fun _ => ?_)
  refine g_aload_n (by decide +kernel : decode prog_2_method_3_code 54 = .ok (.aload_n 0, 1)) rfl ?_
  refine g_getR (by decide +kernel : decode prog_2_method_3_code 55 = .ok (.getfield 9, 3)) fl_Ac_9 rfl rfl ?_
  refine g_aload_n (by decide +kernel : decode prog_2_method_3_code 58 = .ok (.aload_n 0, 1)) rfl ?_
  refine g_dup (by decide +kernel : decode prog_2_method_3_code 59 = .ok (.dup, 1)) rfl ?_
  refine g_getI (by decide +kernel : decode prog_2_method_3_code 60 = .ok (.getfield 44, 3)) fl_Ac_44.get rfl rfl ?_
  refine g_top (w := nI r) (rfl) ?_
  refine g_dup_x1 (by decide +kernel : decode prog_2_method_3_code 63 = .ok (.dup_x1, 1)) rfl rfl ?_
  refine g_iconst (v := nI 1) (by decide +kernel : decode prog_2_method_3_code 64 = .ok (.iconst 1, 1)) (by decide) ?_
  refine g_iaddN (by decide +kernel : decode prog_2_method_3_code 65 = .ok (.iadd, 1)) ?_
  refine g_putI (by decide +kernel : decode prog_2_method_3_code 66 = .ok (.putfield 44, 3)) fl_Ac_44 rfl rfl ?_
  refine g_sto (bS_r _ _ _ _ _) ?_
  refine g_iload (by decide +kernel : decode prog_2_method_3_code 69 = .ok (.iload 6, 2)) rfl ?_
  refine g_iastore (a := r) (by decide +kernel : decode prog_2_method_3_code 71 = .ok (.iastore, 1)) rfl rfl (by omega) (by decide) ?_
  refine g_sto (bS_1 _ _ _ _ _ _) ?_
  refine g_iload (by decide +kernel : decode prog_2_method_3_code 72 = .ok (.iload 4, 2)) rfl ?_
  refine g_iconst (v := nI 1) (by decide +kernel : decode prog_2_method_3_code 74 = .ok (.iconst 1, 1)) (by decide) ?_
  refine g_iaddN (by decide +kernel : decode prog_2_method_3_code 75 = .ok (.iadd, 1)) ?_
  refine g_istore (L' := [some (.ref 0), some (.int (nI 5)), some (.int (nI 2)), some (.int x), some (.int (nI d)), some (.int (nI 22)), some (.int (nI 61)), some (.int (nI (d + 1)))]) (by decide +kernel : decode prog_2_method_3_code 76 = .ok (.istore 7, 2)) (Nat.le_of_ble_eq_true rfl) rfl ?_
  refine g_iload (by decide +kernel : decode prog_2_method_3_code 78 = .ok (.iload 6, 2)) rfl ?_
  refine g_tableIn (x := nI 61) (off := 416) (tgt := 496) (by decide +kernel : decode prog_2_method_3_code 80 = .ok (.tableswitch 442 10 61 #[224, 233, 253, 268, 442, 442, 442, 442, 442, 442, 284, 442, 442, 442, 442, 442, 442, 442, 442, 442, 296, 308, 442, 442, 442, 442, 442, 442, 442, 442, 334, 346, 442, 442, 442, 442, 442, 442, 442, 442, 372, 389, 442, 442, 442, 442, 442, 442, 442, 442, 404, 416], 224)) (by decide) (by decide) rfl (by decide) ?_
  refine g_aload_n (by decide +kernel : decode prog_2_method_3_code 496 = .ok (.aload_n 0, 1)) rfl ?_
  refine g_iconst (v := nI 0) (by decide +kernel : decode prog_2_method_3_code 497 = .ok (.iconst 0, 1)) (by decide) ?_
  refine g_iconst (v := nI 2) (by decide +kernel : decode prog_2_method_3_code 498 = .ok (.iconst 2, 1)) (by decide) ?_
  refine g_iload_n (by decide +kernel : decode prog_2_method_3_code 499 = .ok (.iload_n 3, 1)) rfl ?_
  refine g_iload (by decide +kernel : decode prog_2_method_3_code 500 = .ok (.iload 7, 2)) rfl ?_
  refine g_callVI [.int (nI 0), .int (nI 2), .int x, .int (nI (d + 1))] (by decide +kernel : decode prog_2_method_3_code 502 = .ok (.invokevirtual 37, 3)) lk_Ac_37 (r_5_0_2d σ (upd B r (nI 61)) (r + 1) (x) hk hn ha (d := (d + 1)) (by omega) (by omega) hn7 ha9 hna) rfl rfl rfl rfl (Nat.le_of_ble_eq_true rfl) (Nat.le_of_ble_eq_true rfl) (fun r502 s502 h502 => ?_)
  obtain ⟨rfl, rfl⟩ := h502
  refine g_aload_n (by decide +kernel : decode prog_2_method_3_code 505 = .ok (.aload_n 0, 1)) rfl ?_
  refine g_aload_n (by decide +kernel : decode prog_2_method_3_code 506 = .ok (.aload_n 0, 1)) rfl ?_
  refine g_getI (by decide +kernel : decode prog_2_method_3_code 507 = .ok (.getfield 24, 3)) fl_Ac_24.get rfl rfl ?_
  refine g_top (w := nI 5) (hk) ?_
  refine g_iconst (v := nI 0) (by decide +kernel : decode prog_2_method_3_code 510 = .ok (.iconst 0, 1)) (by decide) ?_
  refine g_aload_n (by decide +kernel : decode prog_2_method_3_code 511 = .ok (.aload_n 0, 1)) rfl ?_
  refine g_getI (by decide +kernel : decode prog_2_method_3_code 512 = .ok (.getfield 28, 3)) fl_Ac_28.get rfl rfl ?_
  refine g_top (w := nI n) (hn) ?_
  refine g_iload (by decide +kernel : decode prog_2_method_3_code 515 = .ok (.iload 7, 2)) rfl ?_
  refine g_callVI [.int (nI 5), .int (nI 0), .int (nI n), .int (nI (d + 1))] (by decide +kernel : decode prog_2_method_3_code 517 = .ok (.invokevirtual 37, 3)) lk_Ac_37 (r_5_5_0 σ (wl (upd B r (nI 61)) (r + 1) [nI 12]) (r + 1 + 1) (nI n) hk hn ha (d := (d + 1)) (by omega) (by omega)) rfl rfl rfl rfl (Nat.le_of_ble_eq_true rfl) (Nat.le_of_ble_eq_true rfl) (fun r517 s517 h517 => ?_)
  obtain ⟨rfl, rfl⟩ := h517
  refine g_ixor (by decide +kernel : decode prog_2_method_3_code 520 = .ok (.ixor, 1)) ?_
  exact g_iret hR (by decide +kernel : decode prog_2_method_3_code 521 = .ok (.ireturn, 1)) rfl ⟨_, rfl, ⟨rfl, rfl⟩⟩
set_option maxRecDepth 20000 in
theorem r_5_0_3 (σ : Store) (B : Row) (r : Nat) (x : Int32) {n a : Nat} (hk : σ 0 2 = nI 5) (hn : σ 0 3 = nI n) (ha : σ 0 4 = nI a) {d : Nat} (hd : d + 3 ≤ 12) (hr : r + 3 ≤ 30) : Ct ΛA mt_Ac_run 3 [.ref 0, .int (nI 0), .int (nI 3), .int x, .int (nI d)] (bS σ B r 0) (PF (((x - nI (n * 2)) * nI 2 - nI a) ^^^ nI 12) (bS σ (wl B r [nI 13, nI 11, nI 10]) (r + 3) 0)) := by
  refine Ct.of (by decide) (Nat.le_of_ble_eq_true rfl) (fun X hR => ?_)
  show G (ΛA, mt_Ac_run, 3) X (bS σ B r 0) [some (.ref 0), some (.int (nI 0)), some (.int (nI 3)), some (.int x), some (.int (nI d)), none, none, none] [] 0
  refine g_iload_n (by decide +kernel : decode prog_2_method_3_code 0 = .ok (.iload_n 1, 1)) rfl ?_
  refine g_iconst (v := nI 4) (by decide +kernel : decode prog_2_method_3_code 1 = .ok (.iconst 4, 1)) (by decide) ?_
  refine g_imulN (by decide +kernel : decode prog_2_method_3_code 2 = .ok (.imul, 1)) ?_
  refine g_iload_n (by decide +kernel : decode prog_2_method_3_code 3 = .ok (.iload_n 2, 1)) rfl ?_
  refine g_iadd (by decide +kernel : decode prog_2_method_3_code 4 = .ok (.iadd, 1)) ?_
  refine g_top (w := nI 3) (by decide) ?_
  refine g_istore (L' := [some (.ref 0), some (.int (nI 0)), some (.int (nI 3)), some (.int x), some (.int (nI d)), some (.int (nI 3)), none, none]) (by decide +kernel : decode prog_2_method_3_code 5 = .ok (.istore 5, 2)) (Nat.le_of_ble_eq_true rfl) rfl ?_
  refine g_iload (by decide +kernel : decode prog_2_method_3_code 7 = .ok (.iload 4, 2)) rfl ?_
  refine g_bipush (v := nI 12) (by decide +kernel : decode prog_2_method_3_code 9 = .ok (.bipush 12, 2)) (by decide) ?_
  refine g_icmp_gtN (tgt := 35) (by decide +kernel : decode prog_2_method_3_code 11 = .ok (.if_icmp .gt 24, 3)) (by decide) (by omega) (by decide) (fun h => absurd h (by omega)) (fun _ => ?_)
  refine g_aload_n (by decide +kernel : decode prog_2_method_3_code 14 = .ok (.aload_n 0, 1)) rfl ?_
  refine g_getI (by decide +kernel : decode prog_2_method_3_code 15 = .ok (.getfield 15, 3)) fl_Ac_15.get rfl rfl ?_
  refine g_top (w := nI 0) (rfl) ?_
  refine g_if_neN (tgt := 35) (by decide +kernel : decode prog_2_method_3_code 18 = .ok (.ifCond .ne 17, 3)) (by decide) (by decide) (fun h => False.elim (by revert h; decide)) (fun _ => ?_)
  refine g_iload (by decide +kernel : decode prog_2_method_3_code 21 = .ok (.iload 5, 2)) rfl ?_
  refine g_if_ltN (by decide +kernel : decode prog_2_method_3_code 23 = .ok (.ifCond .lt 12, 3)) (by decide) (by decide) ?_
  refine g_iload (by decide +kernel : decode prog_2_method_3_code 26 = .ok (.iload 5, 2)) rfl ?_
  refine g_gets (j := 3) (by decide +kernel : decode prog_2_method_3_code 28 = .ok (.getstatic 41, 3)) (by decide) sl_Ac_41 ?_
  refine g_rolen (j := 3) (by decide +kernel : decode prog_2_method_3_code 31 = .ok (.arraylength, 1)) (by decide) ?_
  refine g_icmp_ltN (tgt := 37) (by decide +kernel : decode prog_2_method_3_code 32 = .ok (.if_icmp .lt 5, 3)) (by decide) (by decide) (by decide) (fun _ => ?_) (fun h => absurd (by decide) h)
  refine g_gets (j := 3) (by decide +kernel : decode prog_2_method_3_code 37 = .ok (.getstatic 41, 3)) (by decide) sl_Ac_41 ?_
  refine g_iload (by decide +kernel : decode prog_2_method_3_code 40 = .ok (.iload 5, 2)) rfl ?_
  refine g_roload (j := 3) (a := 3) (by decide +kernel : decode prog_2_method_3_code 42 = .ok (.iaload, 1)) (by decide) rfl (by decide) ?_
  refine g_top (w := nI 13) (rfl) ?_
  refine g_istore (L' := [some (.ref 0), some (.int (nI 0)), some (.int (nI 3)), some (.int x), some (.int (nI d)), some (.int (nI 3)), some (.int (nI 13)), none]) (by decide +kernel : decode prog_2_method_3_code 43 = .ok (.istore 6, 2)) (Nat.le_of_ble_eq_true rfl) rfl ?_
  refine g_aload_n (by decide +kernel : decode prog_2_method_3_code 45 = .ok (.aload_n 0, 1)) rfl ?_
  refine g_getI (by decide +kernel : decode prog_2_method_3_code 46 = .ok (.getfield 44, 3)) fl_Ac_44.get rfl rfl ?_
  refine g_top (w := nI r) (rfl) ?_
  refine g_bipush (v := nI 30) (by decide +kernel : decode prog_2_method_3_code 49 = .ok (.bipush 30, 2)) (by decide) ?_
  refine g_icmp_geN (tgt := 72) (by decide +kernel : decode prog_2_method_3_code 51 = .ok (.if_icmp .ge 21, 3)) (by decide) (by omega) (by decide) (fun h => absurd h (by omega)) (fun _ => ?_)
  refine g_aload_n (by decide +kernel : decode prog_2_method_3_code 54 = .ok (.aload_n 0, 1)) rfl ?_
  refine g_getR (by decide +kernel : decode prog_2_method_3_code 55 = .ok (.getfield 9, 3)) fl_Ac_9 rfl rfl ?_
  refine g_aload_n (by decide +kernel : decode prog_2_method_3_code 58 = .ok (.aload_n 0, 1)) rfl ?_
  refine g_dup (by decide +kernel : decode prog_2_method_3_code 59 = .ok (.dup, 1)) rfl ?_
  refine g_getI (by decide +kernel : decode prog_2_method_3_code 60 = .ok (.getfield 44, 3)) fl_Ac_44.get rfl rfl ?_
  refine g_top (w := nI r) (rfl) ?_
  refine g_dup_x1 (by decide +kernel : decode prog_2_method_3_code 63 = .ok (.dup_x1, 1)) rfl rfl ?_
  refine g_iconst (v := nI 1) (by decide +kernel : decode prog_2_method_3_code 64 = .ok (.iconst 1, 1)) (by decide) ?_
  refine g_iaddN (by decide +kernel : decode prog_2_method_3_code 65 = .ok (.iadd, 1)) ?_
  refine g_putI (by decide +kernel : decode prog_2_method_3_code 66 = .ok (.putfield 44, 3)) fl_Ac_44 rfl rfl ?_
  refine g_sto (bS_r _ _ _ _ _) ?_
  refine g_iload (by decide +kernel : decode prog_2_method_3_code 69 = .ok (.iload 6, 2)) rfl ?_
  refine g_iastore (a := r) (by decide +kernel : decode prog_2_method_3_code 71 = .ok (.iastore, 1)) rfl rfl (by omega) (by decide) ?_
  refine g_sto (bS_1 _ _ _ _ _ _) ?_
  refine g_iload (by decide +kernel : decode prog_2_method_3_code 72 = .ok (.iload 4, 2)) rfl ?_
  refine g_iconst (v := nI 1) (by decide +kernel : decode prog_2_method_3_code 74 = .ok (.iconst 1, 1)) (by decide) ?_
  refine g_iaddN (by decide +kernel : decode prog_2_method_3_code 75 = .ok (.iadd, 1)) ?_
  refine g_istore (L' := [some (.ref 0), some (.int (nI 0)), some (.int (nI 3)), some (.int x), some (.int (nI d)), some (.int (nI 3)), some (.int (nI 13)), some (.int (nI (d + 1)))]) (by decide +kernel : decode prog_2_method_3_code 76 = .ok (.istore 7, 2)) (Nat.le_of_ble_eq_true rfl) rfl ?_
  refine g_iload (by decide +kernel : decode prog_2_method_3_code 78 = .ok (.iload 6, 2)) rfl ?_
  refine g_tableIn (x := nI 13) (off := 268) (tgt := 348) (by decide +kernel : decode prog_2_method_3_code 80 = .ok (.tableswitch 442 10 61 #[224, 233, 253, 268, 442, 442, 442, 442, 442, 442, 284, 442, 442, 442, 442, 442, 442, 442, 442, 442, 296, 308, 442, 442, 442, 442, 442, 442, 442, 442, 334, 346, 442, 442, 442, 442, 442, 442, 442, 442, 372, 389, 442, 442, 442, 442, 442, 442, 442, 442, 404, 416], 224)) (by decide) (by decide) rfl (by decide) ?_
  refine g_aload_n (by decide +kernel : decode prog_2_method_3_code 348 = .ok (.aload_n 0, 1)) rfl ?_
  refine g_aload_n (by decide +kernel : decode prog_2_method_3_code 349 = .ok (.aload_n 0, 1)) rfl ?_
  refine g_getI (by decide +kernel : decode prog_2_method_3_code 350 = .ok (.getfield 24, 3)) fl_Ac_24.get rfl rfl ?_
  refine g_top (w := nI 5) (hk) ?_
  refine g_iconst (v := nI 1) (by decide +kernel : decode prog_2_method_3_code 353 = .ok (.iconst 1, 1)) (by decide) ?_
  refine g_iload_n (by decide +kernel : decode prog_2_method_3_code 354 = .ok (.iload_n 3, 1)) rfl ?_
  refine g_iload (by decide +kernel : decode prog_2_method_3_code 355 = .ok (.iload 7, 2)) rfl ?_
  refine g_callVI [.int (nI 5), .int (nI 1), .int x, .int (nI (d + 1))] (by decide +kernel : decode prog_2_method_3_code 357 = .ok (.invokevirtual 37, 3)) lk_Ac_37 (r_5_5_1 σ (upd B r (nI 13)) (r + 1) (x) hk hn ha (d := (d + 1)) (by omega) (by omega)) rfl rfl rfl rfl (Nat.le_of_ble_eq_true rfl) (Nat.le_of_ble_eq_true rfl) (fun r357 s357 h357 => ?_)
  obtain ⟨rfl, rfl⟩ := h357
  refine g_bipush (v := nI 12) (by decide +kernel : decode prog_2_method_3_code 360 = .ok (.bipush 12, 2)) (by decide) ?_
  refine g_ixor (by decide +kernel : decode prog_2_method_3_code 362 = .ok (.ixor, 1)) ?_
  exact g_iret hR (by decide +kernel : decode prog_2_method_3_code 363 = .ok (.ireturn, 1)) rfl ⟨_, rfl, ⟨rfl, rfl⟩⟩
set_option maxRecDepth 20000 in
theorem r_5_5_3 (σ : Store) (B : Row) (r : Nat) (x : Int32) {n a : Nat} (hk : σ 0 2 = nI 5) (hn : σ 0 3 = nI n) (ha : σ 0 4 = nI a) {d : Nat} (hd : d + 4 ≤ 12) (hr : r + 4 ≤ 30) : Ct ΛA mt_Ac_run 4 [.ref 0, .int (nI 5), .int (nI 3), .int x, .int (nI d)] (bS σ B r 0) (PF ((((x - nI (n * 2)) * nI 2 - nI a) ^^^ nI 12) * nI 3) (bS σ (wl B r [nI 60, nI 13, nI 11, nI 10]) (r + 4) 0)) := by
  refine Ct.of (by decide) (Nat.le_of_ble_eq_true rfl) (fun X hR => ?_)
  show G (ΛA, mt_Ac_run, 4) X (bS σ B r 0) [some (.ref 0), some (.int (nI 5)), some (.int (nI 3)), some (.int x), some (.int (nI d)), none, none, none] [] 0
  refine g_iload_n (by decide +kernel : decode prog_2_method_3_code 0 = .ok (.iload_n 1, 1)) rfl ?_
  refine g_iconst (v := nI 4) (by decide +kernel : decode prog_2_method_3_code 1 = .ok (.iconst 4, 1)) (by decide) ?_
  refine g_imulN (by decide +kernel : decode prog_2_method_3_code 2 = .ok (.imul, 1)) ?_
  refine g_iload_n (by decide +kernel : decode prog_2_method_3_code 3 = .ok (.iload_n 2, 1)) rfl ?_
  refine g_iadd (by decide +kernel : decode prog_2_method_3_code 4 = .ok (.iadd, 1)) ?_
  refine g_top (w := nI 23) (by decide) ?_
  refine g_istore (L' := [some (.ref 0), some (.int (nI 5)), some (.int (nI 3)), some (.int x), some (.int (nI d)), some (.int (nI 23)), none, none]) (by decide +kernel : decode prog_2_method_3_code 5 = .ok (.istore 5, 2)) (Nat.le_of_ble_eq_true rfl) rfl ?_
  refine g_iload (by decide +kernel : decode prog_2_method_3_code 7 = .ok (.iload 4, 2)) rfl ?_
  refine g_bipush (v := nI 12) (by decide +kernel : decode prog_2_method_3_code 9 = .ok (.bipush 12, 2)) (by decide) ?_
  refine g_icmp_gtN (tgt := 35) (by decide +kernel : decode prog_2_method_3_code 11 = .ok (.if_icmp .gt 24, 3)) (by decide) (by omega) (by decide) (fun h => absurd h (by omega)) (fun _ => ?_)
  refine g_aload_n (by decide +kernel : decode prog_2_method_3_code 14 = .ok (.aload_n 0, 1)) rfl ?_
  refine g_getI (by decide +kernel : decode prog_2_method_3_code 15 = .ok (.getfield 15, 3)) fl_Ac_15.get rfl rfl ?_
  refine g_top (w := nI 0) (rfl) ?_
  refine g_if_neN (tgt := 35) (by decide +kernel : decode prog_2_method_3_code 18 = .ok (.ifCond .ne 17, 3)) (by decide) (by decide) (fun h => False.elim (by revert h; decide)) (fun _ => ?_)
  refine g_iload (by decide +kernel : decode prog_2_method_3_code 21 = .ok (.iload 5, 2)) rfl ?_
  refine g_if_ltN (by decide +kernel : decode prog_2_method_3_code 23 = .ok (.ifCond .lt 12, 3)) (by decide) (by decide) ?_
  refine g_iload (by decide +kernel : decode prog_2_method_3_code 26 = .ok (.iload 5, 2)) rfl ?_
  refine g_gets (j := 3) (by decide +kernel : decode prog_2_method_3_code 28 = .ok (.getstatic 41, 3)) (by decide) sl_Ac_41 ?_
  refine g_rolen (j := 3) (by decide +kernel : decode prog_2_method_3_code 31 = .ok (.arraylength, 1)) (by decide) ?_
  refine g_icmp_ltN (tgt := 37) (by decide +kernel : decode prog_2_method_3_code 32 = .ok (.if_icmp .lt 5, 3)) (by decide) (by decide) (by decide) (fun _ => ?_) (fun h => absurd (by decide) h)
  refine g_gets (j := 3) (by decide +kernel : decode prog_2_method_3_code 37 = .ok (.getstatic 41, 3)) (by decide) sl_Ac_41 ?_
  refine g_iload (by decide +kernel : decode prog_2_method_3_code 40 = .ok (.iload 5, 2)) rfl ?_
  refine g_roload (j := 3) (a := 23) (by decide +kernel : decode prog_2_method_3_code 42 = .ok (.iaload, 1)) (by decide) rfl (by decide) ?_
  refine g_top (w := nI 60) (rfl) ?_
  refine g_istore (L' := [some (.ref 0), some (.int (nI 5)), some (.int (nI 3)), some (.int x), some (.int (nI d)), some (.int (nI 23)), some (.int (nI 60)), none]) (by decide +kernel : decode prog_2_method_3_code 43 = .ok (.istore 6, 2)) (Nat.le_of_ble_eq_true rfl) rfl ?_
  refine g_aload_n (by decide +kernel : decode prog_2_method_3_code 45 = .ok (.aload_n 0, 1)) rfl ?_
  refine g_getI (by decide +kernel : decode prog_2_method_3_code 46 = .ok (.getfield 44, 3)) fl_Ac_44.get rfl rfl ?_
  refine g_top (w := nI r) (rfl) ?_
  refine g_bipush (v := nI 30) (by decide +kernel : decode prog_2_method_3_code 49 = .ok (.bipush 30, 2)) (by decide) ?_
  refine g_icmp_geN (tgt := 72) (by decide +kernel : decode prog_2_method_3_code 51 = .ok (.if_icmp .ge 21, 3)) (by decide) (by omega) (by decide) (fun h => absurd h (by omega)) (fun _ => ?_)
  refine g_aload_n (by decide +kernel : decode prog_2_method_3_code 54 = .ok (.aload_n 0, 1)) rfl ?_
  refine g_getR (by decide +kernel : decode prog_2_method_3_code 55 = .ok (.getfield 9, 3)) fl_Ac_9 rfl rfl ?_
  refine g_aload_n (by decide +kernel : decode prog_2_method_3_code 58 = .ok (.aload_n 0, 1)) rfl ?_
  refine g_dup (by decide +kernel : decode prog_2_method_3_code 59 = .ok (.dup, 1)) rfl ?_
  refine g_getI (by decide +kernel : decode prog_2_method_3_code 60 = .ok (.getfield 44, 3)) fl_Ac_44.get rfl rfl ?_
  refine g_top (w := nI r) (rfl) ?_
  refine g_dup_x1 (by decide +kernel : decode prog_2_method_3_code 63 = .ok (.dup_x1, 1)) rfl rfl ?_
  refine g_iconst (v := nI 1) (by decide +kernel : decode prog_2_method_3_code 64 = .ok (.iconst 1, 1)) (by decide) ?_
  refine g_iaddN (by decide +kernel : decode prog_2_method_3_code 65 = .ok (.iadd, 1)) ?_
  refine g_putI (by decide +kernel : decode prog_2_method_3_code 66 = .ok (.putfield 44, 3)) fl_Ac_44 rfl rfl ?_
  refine g_sto (bS_r _ _ _ _ _) ?_
  refine g_iload (by decide +kernel : decode prog_2_method_3_code 69 = .ok (.iload 6, 2)) rfl ?_
  refine g_iastore (a := r) (by decide +kernel : decode prog_2_method_3_code 71 = .ok (.iastore, 1)) rfl rfl (by omega) (by decide) ?_
  refine g_sto (bS_1 _ _ _ _ _ _) ?_
  refine g_iload (by decide +kernel : decode prog_2_method_3_code 72 = .ok (.iload 4, 2)) rfl ?_
  refine g_iconst (v := nI 1) (by decide +kernel : decode prog_2_method_3_code 74 = .ok (.iconst 1, 1)) (by decide) ?_
  refine g_iaddN (by decide +kernel : decode prog_2_method_3_code 75 = .ok (.iadd, 1)) ?_
  refine g_istore (L' := [some (.ref 0), some (.int (nI 5)), some (.int (nI 3)), some (.int x), some (.int (nI d)), some (.int (nI 23)), some (.int (nI 60)), some (.int (nI (d + 1)))]) (by decide +kernel : decode prog_2_method_3_code 76 = .ok (.istore 7, 2)) (Nat.le_of_ble_eq_true rfl) rfl ?_
  refine g_iload (by decide +kernel : decode prog_2_method_3_code 78 = .ok (.iload 6, 2)) rfl ?_
  refine g_tableIn (x := nI 60) (off := 404) (tgt := 484) (by decide +kernel : decode prog_2_method_3_code 80 = .ok (.tableswitch 442 10 61 #[224, 233, 253, 268, 442, 442, 442, 442, 442, 442, 284, 442, 442, 442, 442, 442, 442, 442, 442, 442, 296, 308, 442, 442, 442, 442, 442, 442, 442, 442, 334, 346, 442, 442, 442, 442, 442, 442, 442, 442, 372, 389, 442, 442, 442, 442, 442, 442, 442, 442, 404, 416], 224)) (by decide) (by decide) rfl (by decide) ?_
  refine g_aload_n (by decide +kernel : decode prog_2_method_3_code 484 = .ok (.aload_n 0, 1)) rfl ?_
  refine g_iconst (v := nI 0) (by decide +kernel : decode prog_2_method_3_code 485 = .ok (.iconst 0, 1)) (by decide) ?_
  refine g_iconst (v := nI 3) (by decide +kernel : decode prog_2_method_3_code 486 = .ok (.iconst 3, 1)) (by decide) ?_
  refine g_iload_n (by decide +kernel : decode prog_2_method_3_code 487 = .ok (.iload_n 3, 1)) rfl ?_
  refine g_iload (by decide +kernel : decode prog_2_method_3_code 488 = .ok (.iload 7, 2)) rfl ?_
  refine g_callVI [.int (nI 0), .int (nI 3), .int x, .int (nI (d + 1))] (by decide +kernel : decode prog_2_method_3_code 490 = .ok (.invokevirtual 37, 3)) lk_Ac_37 (r_5_0_3 σ (upd B r (nI 60)) (r + 1) (x) hk hn ha (d := (d + 1)) (by omega) (by omega)) rfl rfl rfl rfl (Nat.le_of_ble_eq_true rfl) (Nat.le_of_ble_eq_true rfl) (fun r490 s490 h490 => ?_)
  obtain ⟨rfl, rfl⟩ := h490
  refine g_iconst (v := nI 3) (by decide +kernel : decode prog_2_method_3_code 493 = .ok (.iconst 3, 1)) (by decide) ?_
  refine g_imul (by decide +kernel : decode prog_2_method_3_code 494 = .ok (.imul, 1)) ?_
  exact g_iret hR (by decide +kernel : decode prog_2_method_3_code 495 = .ok (.ireturn, 1)) rfl ⟨_, rfl, ⟨rfl, rfl⟩⟩
