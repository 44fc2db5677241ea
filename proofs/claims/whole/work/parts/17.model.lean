/-! THE REFERENCE: fewest finders; what is asked and told of places and people -/
theorem few_hid {f : Row} {o n k : Nat} (h : yN k f n (19 + 6 * o + 4) = nI 1) : few f o n (k + 1) = few f o n k := by
  show (if _ then _ else _) = _
  rw [if_pos h]
theorem few_none {f : Row} {o n k : Nat} (h : ¬ yN k f n (19 + 6 * o + 4) = nI 1) (hq : few f o n k = none) : few f o n (k + 1) = some k := by
  show (if _ then _ else _) = _
  rw [if_neg h, hq]
theorem few_lt' {f : Row} {o n k s : Nat} (h : ¬ yN k f n (19 + 6 * o + 4) = nI 1) (hq : few f o n k = some s) (hp : popc k < popc s) : few f o n (k + 1) = some k := by
  show (if _ then _ else _) = _
  rw [if_neg h, hq]
  exact if_pos hp
theorem few_ge {f : Row} {o n k s : Nat} (hq : few f o n k = some s) (hp : ¬ popc k < popc s) : few f o n (k + 1) = some s := by
  show (if _ then _ else _) = _
  split
  · exact hq
  · rw [hq]; exact if_neg hp
theorem nI_pow2 : ∀ n : Fin 9, nI 1 <<< (nI n.val &&& 31) = nI (2 ^ n.val) := by decide +kernel
set_option maxRecDepth 20000 in
theorem p_few_lp {X : CX} {σ : Store} {f : Row} (hI : Inv f) {o : Nat} (ho : o < nn f) {n : Nat} (hn : n < 2 ^ 31) {N : Nat} (hN : N = 2 ^ nn f) (hN2 : N ≤ 256) : ∀ (b9 k : Nat), k ≤ N → N - k < b9 → ∀ (a b : Row), Rt (ΛM, mt_Md_fewest, 5) (mP σ (oN (few f o n N)) f) X → G (ΛM, mt_Md_fewest, 5) X (mS (s_row σ 3 a) f b) [some (.ref 0), some (.int (nI o)), some (.int (nI n)), some (.int (oN (few f o n k))), some (.int (nI k))] [] 23 := by
  have hn8 := hI.n.2
  intro b9
  induction b9 with
  | zero => intro k hk hb a b hR; omega
  | succ b9 ih =>
  intro k hk hb a b hR
  rcases hq : few f o n k with _ | s
  · show G (ΛM, mt_Md_fewest, 5) X (mS (s_row σ 3 a) f b) [some (.ref 0), some (.int (nI o)), some (.int (nI n)), some (.int (-3)), some (.int (nI k))] [] 23
    refine g_iload (by decide +kernel : decode prog_10_method_72_code 23 = .ok (.iload 4, 2)) rfl ?_
    refine g_iconst (v := nI 1) (by decide +kernel : decode prog_10_method_72_code 25 = .ok (.iconst 1, 1)) (by decide) ?_
    refine g_aload_n (by decide +kernel : decode prog_10_method_72_code 26 = .ok (.aload_n 0, 1)) rfl ?_
    refine g_getR (by decide +kernel : decode prog_10_method_72_code 27 = .ok (.getfield 7, 3)) fl_Md_7 rfl rfl ?_
    refine g_iconst (v := nI 0) (by decide +kernel : decode prog_10_method_72_code 30 = .ok (.iconst 0, 1)) (by decide) ?_
    refine g_iaload (a := 0) (by decide +kernel : decode prog_10_method_72_code 31 = .ok (.iaload, 1)) rfl rfl (by decide) (by decide) ?_
    refine g_top (w := nI (nn f)) (hI.n.1) ?_
    refine g_ishl (by decide +kernel : decode prog_10_method_72_code 32 = .ok (.ishl, 1)) ?_
    refine g_top (w := nI N) (by rw [hN]; exact nI_pow2 ⟨nn f, by omega⟩) ?_
    refine g_icmp_geN (tgt := 76) (by decide +kernel : decode prog_10_method_72_code 33 = .ok (.if_icmp .ge 43, 3)) (by decide) (by first | omega | (have h9 := popc_le k; have h8 := popc_le s; omega)) (by first | omega | (have h9 := popc_le k; have h8 := popc_le s; omega)) (fun h33 => ?_) (fun h33 => ?_)
    · refine g_iload_n (by decide +kernel : decode prog_10_method_72_code 76 = .ok (.iload_n 3, 1)) rfl ?_
      exact g_iret hR (by decide +kernel : decode prog_10_method_72_code 77 = .ok (.ireturn, 1)) rfl ⟨_, rfl, ⟨by rw [show k = N by omega] at hq; rw [hq]; rfl, ⟨_, _, rfl⟩⟩⟩
    · refine g_iload_n (by decide +kernel : decode prog_10_method_72_code 36 = .ok (.iload_n 3, 1)) rfl ?_
      refine g_if_lt (tgt := 52) (by decide +kernel : decode prog_10_method_72_code 37 = .ok (.ifCond .lt 15, 3)) (by decide) (fun _ => ?_) (fun h => False.elim (by revert h; decide))
      refine g_aload_n (by decide +kernel : decode prog_10_method_72_code 52 = .ok (.aload_n 0, 1)) rfl ?_
      refine g_iload_n (by decide +kernel : decode prog_10_method_72_code 53 = .ok (.iload_n 1, 1)) rfl ?_
      refine g_iload_n (by decide +kernel : decode prog_10_method_72_code 54 = .ok (.iload_n 2, 1)) rfl ?_
      refine g_iload (by decide +kernel : decode prog_10_method_72_code 55 = .ok (.iload 4, 2)) rfl ?_
      refine g_callVI [.int (nI o), .int (nI n), .int (nI k)] (by decide +kernel : decode prog_10_method_72_code 57 = .ok (.invokevirtual 236, 3)) lk_Md_236 (m_isHiddenBy (s_row σ 3 a) f b hI o ho n k (by omega) (by omega)) rfl rfl rfl rfl (Nat.le_of_ble_eq_true rfl) (Nat.le_of_ble_eq_true rfl) (fun r57 s57 h57 => ?_)
      rcases h57 with ⟨rfl, ⟨rfl, q57⟩ | ⟨rfl, q57⟩⟩
      · refine g_sto (σ' := mS (s_row σ 3 f) f (yB k f b n)) (by rw [s_row_row]) ?_
        refine g_if_neN (tgt := 68) (by decide +kernel : decode prog_10_method_72_code 60 = .ok (.ifCond .ne 8, 3)) (by decide) (by decide) (fun _ => ?_) (fun h => False.elim (by revert h; decide))
        refine g_iload_n (by decide +kernel : decode prog_10_method_72_code 68 = .ok (.iload_n 3, 1)) rfl ?_
        refine g_istore_n (L' := [some (.ref 0), some (.int (nI o)), some (.int (nI n)), some (.int (-3)), some (.int (nI k))]) (by decide +kernel : decode prog_10_method_72_code 69 = .ok (.istore_n 3, 1)) (Nat.le_of_ble_eq_true rfl) rfl ?_
        refine g_iincN (n := 1) (L' := [some (.ref 0), some (.int (nI o)), some (.int (nI n)), some (.int (-3)), some (.int (nI (k + 1)))]) (by decide +kernel : decode prog_10_method_72_code 70 = .ok (.iinc 4 1, 3)) rfl (by decide) (Nat.le_of_ble_eq_true rfl) rfl ?_
        refine g_goto (tgt := 23) (by decide +kernel : decode prog_10_method_72_code 73 = .ok (.goto (-50), 3)) (by decide) ?_
        have h9 := ih (k + 1) (by omega) (by omega) f (yB k f b n) hR
        rw [(few_hid q57).trans hq] at h9
        exact h9
      · refine g_sto (σ' := mS (s_row σ 3 f) f (yB k f b n)) (by rw [s_row_row]) ?_
        refine g_if_neN (tgt := 68) (by decide +kernel : decode prog_10_method_72_code 60 = .ok (.ifCond .ne 8, 3)) (by decide) (by decide) (fun h => False.elim (by revert h; decide)) (fun _ => ?_)
        refine g_iload (by decide +kernel : decode prog_10_method_72_code 63 = .ok (.iload 4, 2)) rfl ?_
        refine g_goto (tgt := 69) (by decide +kernel : decode prog_10_method_72_code 65 = .ok (.goto 4, 3)) (by decide) ?_
        refine g_istore_n (L' := [some (.ref 0), some (.int (nI o)), some (.int (nI n)), some (.int (nI k)), some (.int (nI k))]) (by decide +kernel : decode prog_10_method_72_code 69 = .ok (.istore_n 3, 1)) (Nat.le_of_ble_eq_true rfl) rfl ?_
        refine g_iincN (n := 1) (L' := [some (.ref 0), some (.int (nI o)), some (.int (nI n)), some (.int (nI k)), some (.int (nI (k + 1)))]) (by decide +kernel : decode prog_10_method_72_code 70 = .ok (.iinc 4 1, 3)) rfl (by decide) (Nat.le_of_ble_eq_true rfl) rfl ?_
        refine g_goto (tgt := 23) (by decide +kernel : decode prog_10_method_72_code 73 = .ok (.goto (-50), 3)) (by decide) ?_
        have h9 := ih (k + 1) (by omega) (by omega) f (yB k f b n) hR
        rw [few_none q57 hq] at h9
        exact h9
  · show G (ΛM, mt_Md_fewest, 5) X (mS (s_row σ 3 a) f b) [some (.ref 0), some (.int (nI o)), some (.int (nI n)), some (.int (nI s)), some (.int (nI k))] [] 23
    have hs := few_lt f o n k s hq
    refine g_iload (by decide +kernel : decode prog_10_method_72_code 23 = .ok (.iload 4, 2)) rfl ?_
    refine g_iconst (v := nI 1) (by decide +kernel : decode prog_10_method_72_code 25 = .ok (.iconst 1, 1)) (by decide) ?_
    refine g_aload_n (by decide +kernel : decode prog_10_method_72_code 26 = .ok (.aload_n 0, 1)) rfl ?_
    refine g_getR (by decide +kernel : decode prog_10_method_72_code 27 = .ok (.getfield 7, 3)) fl_Md_7 rfl rfl ?_
    refine g_iconst (v := nI 0) (by decide +kernel : decode prog_10_method_72_code 30 = .ok (.iconst 0, 1)) (by decide) ?_
    refine g_iaload (a := 0) (by decide +kernel : decode prog_10_method_72_code 31 = .ok (.iaload, 1)) rfl rfl (by decide) (by decide) ?_
    refine g_top (w := nI (nn f)) (hI.n.1) ?_
    refine g_ishl (by decide +kernel : decode prog_10_method_72_code 32 = .ok (.ishl, 1)) ?_
    refine g_top (w := nI N) (by rw [hN]; exact nI_pow2 ⟨nn f, by omega⟩) ?_
    refine g_icmp_geN (tgt := 76) (by decide +kernel : decode prog_10_method_72_code 33 = .ok (.if_icmp .ge 43, 3)) (by decide) (by first | omega | (have h9 := popc_le k; have h8 := popc_le s; omega)) (by first | omega | (have h9 := popc_le k; have h8 := popc_le s; omega)) (fun h33 => ?_) (fun h33 => ?_)
    · refine g_iload_n (by decide +kernel : decode prog_10_method_72_code 76 = .ok (.iload_n 3, 1)) rfl ?_
      exact g_iret hR (by decide +kernel : decode prog_10_method_72_code 77 = .ok (.ireturn, 1)) rfl ⟨_, rfl, ⟨by rw [show k = N by omega] at hq; rw [hq]; rfl, ⟨_, _, rfl⟩⟩⟩
    · refine g_iload_n (by decide +kernel : decode prog_10_method_72_code 36 = .ok (.iload_n 3, 1)) rfl ?_
      refine g_if_ltN (by decide +kernel : decode prog_10_method_72_code 37 = .ok (.ifCond .lt 15, 3)) (by decide) (by first | omega | (have h9 := popc_le k; have h8 := popc_le s; omega)) ?_
      refine g_iload (by decide +kernel : decode prog_10_method_72_code 40 = .ok (.iload 4, 2)) rfl ?_
      refine g_callSI [.int (nI k)] (by decide +kernel : decode prog_10_method_72_code 42 = .ok (.invokestatic 192, 3)) lk_Md_192 (m_size ΛM (mS (s_row σ 3 a) f b) k (by omega)) rfl rfl (Nat.le_of_ble_eq_true rfl) (Nat.le_of_ble_eq_true rfl) (fun r42 s42 h42 => ?_)
      obtain ⟨rfl, rfl⟩ := h42
      refine g_iload_n (by decide +kernel : decode prog_10_method_72_code 45 = .ok (.iload_n 3, 1)) rfl ?_
      refine g_callSI [.int (nI s)] (by decide +kernel : decode prog_10_method_72_code 46 = .ok (.invokestatic 192, 3)) lk_Md_192 (m_size ΛM (mS (s_row σ 3 a) f b) s (by omega)) rfl rfl (Nat.le_of_ble_eq_true rfl) (Nat.le_of_ble_eq_true rfl) (fun r46 s46 h46 => ?_)
      obtain ⟨rfl, rfl⟩ := h46
      refine g_icmp_geN (tgt := 68) (by decide +kernel : decode prog_10_method_72_code 49 = .ok (.if_icmp .ge 19, 3)) (by decide) (by first | omega | (have h9 := popc_le k; have h8 := popc_le s; omega)) (by first | omega | (have h9 := popc_le k; have h8 := popc_le s; omega)) (fun h49 => ?_) (fun h49 => ?_)
      · refine g_iload_n (by decide +kernel : decode prog_10_method_72_code 68 = .ok (.iload_n 3, 1)) rfl ?_
        refine g_istore_n (L' := [some (.ref 0), some (.int (nI o)), some (.int (nI n)), some (.int (nI s)), some (.int (nI k))]) (by decide +kernel : decode prog_10_method_72_code 69 = .ok (.istore_n 3, 1)) (Nat.le_of_ble_eq_true rfl) rfl ?_
        refine g_iincN (n := 1) (L' := [some (.ref 0), some (.int (nI o)), some (.int (nI n)), some (.int (nI s)), some (.int (nI (k + 1)))]) (by decide +kernel : decode prog_10_method_72_code 70 = .ok (.iinc 4 1, 3)) rfl (by decide) (Nat.le_of_ble_eq_true rfl) rfl ?_
        refine g_goto (tgt := 23) (by decide +kernel : decode prog_10_method_72_code 73 = .ok (.goto (-50), 3)) (by decide) ?_
        have h9 := ih (k + 1) (by omega) (by omega) a b hR
        rw [few_ge hq (by omega)] at h9
        exact h9
      · refine g_aload_n (by decide +kernel : decode prog_10_method_72_code 52 = .ok (.aload_n 0, 1)) rfl ?_
        refine g_iload_n (by decide +kernel : decode prog_10_method_72_code 53 = .ok (.iload_n 1, 1)) rfl ?_
        refine g_iload_n (by decide +kernel : decode prog_10_method_72_code 54 = .ok (.iload_n 2, 1)) rfl ?_
        refine g_iload (by decide +kernel : decode prog_10_method_72_code 55 = .ok (.iload 4, 2)) rfl ?_
        refine g_callVI [.int (nI o), .int (nI n), .int (nI k)] (by decide +kernel : decode prog_10_method_72_code 57 = .ok (.invokevirtual 236, 3)) lk_Md_236 (m_isHiddenBy (s_row σ 3 a) f b hI o ho n k (by omega) (by omega)) rfl rfl rfl rfl (Nat.le_of_ble_eq_true rfl) (Nat.le_of_ble_eq_true rfl) (fun r57 s57 h57 => ?_)
        rcases h57 with ⟨rfl, ⟨rfl, q57⟩ | ⟨rfl, q57⟩⟩
        · refine g_sto (σ' := mS (s_row σ 3 f) f (yB k f b n)) (by rw [s_row_row]) ?_
          refine g_if_neN (tgt := 68) (by decide +kernel : decode prog_10_method_72_code 60 = .ok (.ifCond .ne 8, 3)) (by decide) (by decide) (fun _ => ?_) (fun h => False.elim (by revert h; decide))
          refine g_iload_n (by decide +kernel : decode prog_10_method_72_code 68 = .ok (.iload_n 3, 1)) rfl ?_
          refine g_istore_n (L' := [some (.ref 0), some (.int (nI o)), some (.int (nI n)), some (.int (nI s)), some (.int (nI k))]) (by decide +kernel : decode prog_10_method_72_code 69 = .ok (.istore_n 3, 1)) (Nat.le_of_ble_eq_true rfl) rfl ?_
          refine g_iincN (n := 1) (L' := [some (.ref 0), some (.int (nI o)), some (.int (nI n)), some (.int (nI s)), some (.int (nI (k + 1)))]) (by decide +kernel : decode prog_10_method_72_code 70 = .ok (.iinc 4 1, 3)) rfl (by decide) (Nat.le_of_ble_eq_true rfl) rfl ?_
          refine g_goto (tgt := 23) (by decide +kernel : decode prog_10_method_72_code 73 = .ok (.goto (-50), 3)) (by decide) ?_
          have h9 := ih (k + 1) (by omega) (by omega) f (yB k f b n) hR
          rw [(few_hid q57).trans hq] at h9
          exact h9
        · refine g_sto (σ' := mS (s_row σ 3 f) f (yB k f b n)) (by rw [s_row_row]) ?_
          refine g_if_neN (tgt := 68) (by decide +kernel : decode prog_10_method_72_code 60 = .ok (.ifCond .ne 8, 3)) (by decide) (by decide) (fun h => False.elim (by revert h; decide)) (fun _ => ?_)
          refine g_iload (by decide +kernel : decode prog_10_method_72_code 63 = .ok (.iload 4, 2)) rfl ?_
          refine g_goto (tgt := 69) (by decide +kernel : decode prog_10_method_72_code 65 = .ok (.goto 4, 3)) (by decide) ?_
          refine g_istore_n (L' := [some (.ref 0), some (.int (nI o)), some (.int (nI n)), some (.int (nI k)), some (.int (nI k))]) (by decide +kernel : decode prog_10_method_72_code 69 = .ok (.istore_n 3, 1)) (Nat.le_of_ble_eq_true rfl) rfl ?_
          refine g_iincN (n := 1) (L' := [some (.ref 0), some (.int (nI o)), some (.int (nI n)), some (.int (nI k)), some (.int (nI (k + 1)))]) (by decide +kernel : decode prog_10_method_72_code 70 = .ok (.iinc 4 1, 3)) rfl (by decide) (Nat.le_of_ble_eq_true rfl) rfl ?_
          refine g_goto (tgt := 23) (by decide +kernel : decode prog_10_method_72_code 73 = .ok (.goto (-50), 3)) (by decide) ?_
          have h9 := ih (k + 1) (by omega) (by omega) f (yB k f b n) hR
          rw [few_lt' q57 hq (by omega)] at h9
          exact h9
set_option maxRecDepth 20000 in
theorem p_fewest (σ : Store) (f b : Row) (hI : Inv f) (x y : Int32) : Ct ΛM mt_Md_fewest 5 [.ref 0, .int x, .int y] (mS σ f b) (mP σ (fewV f x y) f) := by
  refine Ct.of (by decide) (Nat.le_of_ble_eq_true rfl) (fun X hR => ?_)
  show G (ΛM, mt_Md_fewest, 5) X (mS σ f b) [some (.ref 0), some (.int x), some (.int y), none, none] [] 0
  have hn8 := hI.n.2
  have hN2 : 2 ^ nn f ≤ 256 := Nat.pow_le_pow_right (n := 2) (by decide) hn8
  refine g_aload_n (by decide +kernel : decode prog_10_method_72_code 0 = .ok (.aload_n 0, 1)) rfl ?_
  refine g_iload_n (by decide +kernel : decode prog_10_method_72_code 1 = .ok (.iload_n 1, 1)) rfl ?_
  refine g_callVI [.int x] (by decide +kernel : decode prog_10_method_72_code 2 = .ok (.invokevirtual 172, 3)) lk_Md_172 (m_isOne (mS σ f b) x hI.n.1 (by omega)) rfl rfl rfl rfl (Nat.le_of_ble_eq_true rfl) (Nat.le_of_ble_eq_true rfl) (fun r2 s2 h2 => ?_)
  rcases h2 with ⟨rfl, ⟨rfl, o, ho2, rfl⟩ | ⟨rfl, n2⟩⟩
  · refine g_if_eqN (tgt := 15) (by decide +kernel : decode prog_10_method_72_code 5 = .ok (.ifCond .eq 10, 3)) (by decide) (by decide) (fun h => False.elim (by revert h; decide)) (fun _ => ?_)
    refine g_iload_n (by decide +kernel : decode prog_10_method_72_code 8 = .ok (.iload_n 2, 1)) rfl ?_
    refine g_callSI [.int y] (by decide +kernel : decode prog_10_method_72_code 9 = .ok (.invokestatic 233, 3)) lk_Md_233 (m_isShort (mS σ f b) y) rfl rfl (Nat.le_of_ble_eq_true rfl) (Nat.le_of_ble_eq_true rfl) (fun r9 s9 h9 => ?_)
    rcases h9 with ⟨rfl, ⟨rfl, n, ha9, hb9, rfl⟩ | ⟨rfl, n9⟩⟩
    · refine g_if_neN (tgt := 17) (by decide +kernel : decode prog_10_method_72_code 12 = .ok (.ifCond .ne 5, 3)) (by decide) (by decide) (fun _ => ?_) (fun h => False.elim (by revert h; decide))
      refine g_bipush (v := (-3)) (by decide +kernel : decode prog_10_method_72_code 17 = .ok (.bipush (-3), 2)) (by decide) ?_
      refine g_istore_n (L' := [some (.ref 0), some (.int (nI o)), some (.int (nI n)), some (.int (-3)), none]) (by decide +kernel : decode prog_10_method_72_code 19 = .ok (.istore_n 3, 1)) (Nat.le_of_ble_eq_true rfl) rfl ?_
      refine g_iconst (v := nI 0) (by decide +kernel : decode prog_10_method_72_code 20 = .ok (.iconst 0, 1)) (by decide) ?_
      refine g_istore (L' := [some (.ref 0), some (.int (nI o)), some (.int (nI n)), some (.int (-3)), some (.int (nI 0))]) (by decide +kernel : decode prog_10_method_72_code 21 = .ok (.istore 4, 2)) (Nat.le_of_ble_eq_true rfl) rfl ?_
      refine g_sto (σ' := mS (s_row σ 3 (σ 3)) f b) (by rw [s_row_self]) ?_
      exact p_few_lp hI ho2 (by omega) rfl hN2 (2 ^ nn f + 1) 0 (Nat.zero_le _) (Nat.lt_succ_of_le (Nat.sub_le _ _)) _ _ (by simpa only [fewV, pz_of hI ho2, rg_of ha9 hb9] using hR)
    · refine g_if_neN (tgt := 17) (by decide +kernel : decode prog_10_method_72_code 12 = .ok (.ifCond .ne 5, 3)) (by decide) (by decide) (fun h => False.elim (by revert h; decide)) (fun _ => ?_)
      refine g_iconst (v := (-1)) (by decide +kernel : decode prog_10_method_72_code 15 = .ok (.iconst (-1), 1)) (by decide) ?_
      exact g_iret hR (by decide +kernel : decode prog_10_method_72_code 16 = .ok (.ireturn, 1)) rfl ⟨_, rfl, ⟨by simp only [fewV, pz_of hI ho2, rg_none n9], Jk.self _ _ _⟩⟩
  · refine g_if_eqN (tgt := 15) (by decide +kernel : decode prog_10_method_72_code 5 = .ok (.ifCond .eq 10, 3)) (by decide) (by decide) (fun _ => ?_) (fun h => False.elim (by revert h; decide))
    refine g_iconst (v := (-1)) (by decide +kernel : decode prog_10_method_72_code 15 = .ok (.iconst (-1), 1)) (by decide) ?_
    exact g_iret hR (by decide +kernel : decode prog_10_method_72_code 16 = .ok (.ireturn, 1)) rfl ⟨_, rfl, ⟨by simp only [fewV, pz_none hI n2], Jk.self _ _ _⟩⟩
def drw (z : Int32) : Int32 := z * 1103515245 + nI 12345
def sh16 (z : Int32) : Int32 := (Int32.toUInt32 z >>> (Int32.toUInt32 (nI 16) &&& Int32.toUInt32 31)).toInt32
theorem sh16_n (z : Int32) : sh16 z = nI (tn (sh16 z)) ∧ tn (sh16 z) < 65536 := by
  have h := pk_ushr z (nI 16) 16 (by decide +kernel)
  have h1 : z.toBitVec.toNat < 2 ^ 32 := z.toBitVec.isLt
  have h2 : (sh16 z).toBitVec.toNat = z.toBitVec.toNat / 2 ^ 16 := h
  have h3 : (sh16 z).toBitVec.toNat < 65536 := by rw [h2]; omega
  have h4 : sh16 z = nI ((sh16 z).toBitVec.toNat) := by
    apply Int32.toBitVec_inj.mp
    apply BitVec.eq_of_toNat_eq
    rw [pk_tn (by omega)]
  rw [h4, tn_nI (by omega)]
  exact ⟨rfl, h3⟩
/-- a draw before a year: one may turn -/
def dyr (f : Row) : Row := if nn f = 0 then f else
  let g := upd (upd f 2 (drw (f 2))) 2 (drw (drw (f 2)))
  let o := tn (sh16 (drw (f 2))) % nn f
  if g 6 ≤ nI (tn (sh16 (drw (drw (f 2)))) % 100) then g else upd g (19 + 6 * o + 4) (nI 1 - g (19 + 6 * o + 4))
theorem dyr_inv {f : Row} (h : Inv f) : Inv (dyr f) ∧ nn (dyr f) = nn f := by
  unfold dyr
  split
  · exact ⟨h, rfl⟩
  · rename_i h0
    dsimp only
    have hg := (h.z (drw (f 2))).z (drw (drw (f 2)))
    have hn : nn (upd (upd f 2 (drw (f 2))) 2 (drw (drw (f 2)))) = nn f := by rw [nn_up (by decide), nn_up (by decide)]
    split
    · exact ⟨hg, hn⟩
    · have ho : tn (sh16 (drw (f 2))) % nn f < nn f := Nat.mod_lt _ (by omega)
      refine ⟨hg.up (by decide) ?_, by rw [nn_up (by omega)]; exact hn⟩
      obtain ⟨k, hk, e⟩ := hg.2.1 (tn (sh16 (drw (f 2))) % nn f) (by omega) 4 (by decide)
      have hk1 : k ≤ 1 := hk
      rw [e, pk_sub hk1]
      exact Rng.of (by show 1 - k ≤ 1; omega)
def yearT (f : Row) : Row := yF 255 (dyr f)
theorem yearT_inv {f : Row} (h : Inv f) : Inv (yearT f) ∧ nn (yearT f) = nn f := ⟨(yF_inv (dyr_inv h).1).1, (yF_inv (dyr_inv h).1).2.trans (dyr_inv h).2⟩
set_option maxRecDepth 20000 in
theorem m_drawn (σ : Store) (f b : Row)  : Ct ΛM mt_Md_drawn 0 [.ref 0] (mS σ f b) (PF (sh16 (drw (f 2))) (mS σ (upd f 2 (drw (f 2))) b)) := by
  refine Ct.of (by decide) (Nat.le_of_ble_eq_true rfl) (fun X hR => ?_)
  show G (ΛM, mt_Md_drawn, 0) X (mS σ f b) [some (.ref 0)] [] 0
  refine g_aload_n (by decide +kernel : decode prog_10_method_54_code 0 = .ok (.aload_n 0, 1)) rfl ?_
  refine g_getR (by decide +kernel : decode prog_10_method_54_code 1 = .ok (.getfield 7, 3)) fl_Md_7 rfl rfl ?_
  refine g_iconst (v := nI 2) (by decide +kernel : decode prog_10_method_54_code 4 = .ok (.iconst 2, 1)) (by decide) ?_
  refine g_aload_n (by decide +kernel : decode prog_10_method_54_code 5 = .ok (.aload_n 0, 1)) rfl ?_
  refine g_getR (by decide +kernel : decode prog_10_method_54_code 6 = .ok (.getfield 7, 3)) fl_Md_7 rfl rfl ?_
  refine g_iconst (v := nI 2) (by decide +kernel : decode prog_10_method_54_code 9 = .ok (.iconst 2, 1)) (by decide) ?_
  refine g_iaload (a := 2) (by decide +kernel : decode prog_10_method_54_code 10 = .ok (.iaload, 1)) rfl rfl (by decide) (by decide) ?_
  refine g_top (w := f 2) (rfl) ?_
  refine g_ldc (by decide +kernel : decode prog_10_method_54_code 11 = .ok (.ldc 210, 2)) kc_Md_210 ?_
  refine g_imul (by decide +kernel : decode prog_10_method_54_code 13 = .ok (.imul, 1)) ?_
  refine g_sipush (v := nI 12345) (by decide +kernel : decode prog_10_method_54_code 14 = .ok (.sipush 12345, 3)) (by decide) ?_
  refine g_iadd (by decide +kernel : decode prog_10_method_54_code 17 = .ok (.iadd, 1)) ?_
  refine g_iastore (a := 2) (by decide +kernel : decode prog_10_method_54_code 18 = .ok (.iastore, 1)) rfl rfl (by decide) (by decide) ?_
  refine g_sto (mS_u1 _ _ _ _ _) ?_
  refine g_aload_n (by decide +kernel : decode prog_10_method_54_code 19 = .ok (.aload_n 0, 1)) rfl ?_
  refine g_getR (by decide +kernel : decode prog_10_method_54_code 20 = .ok (.getfield 7, 3)) fl_Md_7 rfl rfl ?_
  refine g_iconst (v := nI 2) (by decide +kernel : decode prog_10_method_54_code 23 = .ok (.iconst 2, 1)) (by decide) ?_
  refine g_iaload (a := 2) (by decide +kernel : decode prog_10_method_54_code 24 = .ok (.iaload, 1)) rfl rfl (by decide) (by decide) ?_
  refine g_top (w := drw (f 2)) (by rw [mS_1, upd_s]; rfl) ?_
  refine g_bipush (v := nI 16) (by decide +kernel : decode prog_10_method_54_code 25 = .ok (.bipush 16, 2)) (by decide) ?_
  refine g_iushr (by decide +kernel : decode prog_10_method_54_code 27 = .ok (.iushr, 1)) ?_
  exact g_iret hR (by decide +kernel : decode prog_10_method_54_code 28 = .ok (.ireturn, 1)) rfl ⟨_, rfl, ⟨rfl, rfl⟩⟩
