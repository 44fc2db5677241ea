/-! THE REFERENCE: a year -/
theorem mS_1 (σ : Store) (f b : Row) : mS σ f b 1 = f := rfl
theorem mS_6 (σ : Store) (f b : Row) : mS σ f b 6 = b := rfl
theorem inv_m256 {f : Row} (h : Inv f) : msk f (nn f) < 256 := by
  have h1 : 2 ^ nn f ≤ 2 ^ 8 := Nat.pow_le_pow_right (by decide) h.n.2
  have h2 := h.msk (Nat.le_refl _)
  omega
theorem findQ_no {f : Row} {o q n : Nat} (hq : q < n) (h : ¬ (f (19 + 6 * q + 4) = nI 1 ∧ f (19 + 6 * q + 3) = f (19 + 6 * o + 3) ∧ hidesF f q < seesF f o)) : findQ f o (n - q) q = findQ f o (n - (q + 1)) (q + 1) := by
  rw [show n - q = (n - (q + 1)) + 1 by omega]
  show (if _ then _ else _) = _
  rw [if_neg h]
theorem findQ_yes {f : Row} {o q n : Nat} (hq : q < n) (h : f (19 + 6 * q + 4) = nI 1 ∧ f (19 + 6 * q + 3) = f (19 + 6 * o + 3) ∧ hidesF f q < seesF f o) : findQ f o (n - q) q = some q := by
  rw [show n - q = (n - (q + 1)) + 1 by omega]
  show (if _ then _ else _) = _
  rw [if_pos h]
set_option maxRecDepth 20000 in
theorem m_seeks_lp {X : CX} {σ : Store} {f b : Row} (hI : Inv f) {o : Nat} (ho : o < nn f) {r : Option Nat} : ∀ (b9 q : Nat), q ≤ nn f → nn f - q < b9 → findQ f o (nn f - q) q = r → Rt (ΛM, mt_Md_seeks, 2) (PU (mS σ (seekF f o r) (seekB b o r))) X → G (ΛM, mt_Md_seeks, 2) X (mS σ f b) [some (.ref 0), some (.int (nI o)), some (.int (nI 1)), some (.int (nI q))] [] 34 := by
  have hn8 := hI.n.2
  intro b9
  induction b9 with
  | zero => intro q hq hb hr hR; omega
  | succ b9 ih =>
  intro q hq hb hr hR
  refine g_iload_n (by decide +kernel : decode prog_10_method_49_code 34 = .ok (.iload_n 3, 1)) rfl ?_
  refine g_aload_n (by decide +kernel : decode prog_10_method_49_code 35 = .ok (.aload_n 0, 1)) rfl ?_
  refine g_getR (by decide +kernel : decode prog_10_method_49_code 36 = .ok (.getfield 7, 3)) fl_Md_7 rfl rfl ?_
  refine g_iconst (v := nI 0) (by decide +kernel : decode prog_10_method_49_code 39 = .ok (.iconst 0, 1)) (by decide) ?_
  refine g_iaload (a := 0) (by decide +kernel : decode prog_10_method_49_code 40 = .ok (.iaload, 1)) rfl rfl (by decide) (by decide) ?_
  refine g_top (w := nI (nn f)) (hI.n.1) ?_
  refine g_icmp_geN (tgt := 157) (by decide +kernel : decode prog_10_method_49_code 41 = .ok (.if_icmp .ge 116, 3)) (by decide) (by omega) (by omega) (fun h41 => ?_) (fun h41 => ?_)
  · exact g_vret hR (by decide +kernel : decode prog_10_method_49_code 157 = .ok (.return_, 1)) rfl ⟨rfl, by rw [← hr, show nn f - q = 0 by omega]; rfl⟩
  · refine g_iload_n (by decide +kernel : decode prog_10_method_49_code 44 = .ok (.iload_n 2, 1)) rfl ?_
    refine g_if_eqN (tgt := 157) (by decide +kernel : decode prog_10_method_49_code 45 = .ok (.ifCond .eq 112, 3)) (by decide) (by decide) (fun h => absurd h (by decide)) (fun _ => ?_)
    refine g_aload_n (by decide +kernel : decode prog_10_method_49_code 48 = .ok (.aload_n 0, 1)) rfl ?_
    refine g_iload_n (by decide +kernel : decode prog_10_method_49_code 49 = .ok (.iload_n 3, 1)) rfl ?_
    refine g_iconst (v := nI 4) (by decide +kernel : decode prog_10_method_49_code 50 = .ok (.iconst 4, 1)) (by decide) ?_
    refine g_callVI [.int (nI q), .int (nI 4)] (by decide +kernel : decode prog_10_method_49_code 51 = .ok (.invokevirtual 169, 3)) lk_Md_169 (m_its (mS σ f b) q 4 (v := f (19 + 6 * q + 4)) rfl (by omega)) rfl rfl rfl rfl (Nat.le_of_ble_eq_true rfl) (Nat.le_of_ble_eq_true rfl) (fun r51 s51 h51 => ?_)
    obtain ⟨rfl, rfl⟩ := h51
    refine g_iconst (v := nI 1) (by decide +kernel : decode prog_10_method_49_code 54 = .ok (.iconst 1, 1)) (by decide) ?_
    refine g_icmp_ne (tgt := 151) (by decide +kernel : decode prog_10_method_49_code 55 = .ok (.if_icmp .ne 96, 3)) (by decide) (fun h55 => ?_) (fun h55 => ?_)
    · refine g_iincN (n := 1) (L' := [some (.ref 0), some (.int (nI o)), some (.int (nI 1)), some (.int (nI (q + 1)))]) (by decide +kernel : decode prog_10_method_49_code 151 = .ok (.iinc 3 1, 3)) rfl (by decide) (Nat.le_of_ble_eq_true rfl) rfl ?_
      refine g_goto (tgt := 34) (by decide +kernel : decode prog_10_method_49_code 154 = .ok (.goto (-120), 3)) (by decide) ?_
      exact ih (q + 1) (by omega) (by omega) (by rw [← hr]; exact (findQ_no (by omega) (fun z => h55 z.1)).symm) hR
    · refine g_aload_n (by decide +kernel : decode prog_10_method_49_code 58 = .ok (.aload_n 0, 1)) rfl ?_
      refine g_iload_n (by decide +kernel : decode prog_10_method_49_code 59 = .ok (.iload_n 3, 1)) rfl ?_
      refine g_iconst (v := nI 3) (by decide +kernel : decode prog_10_method_49_code 60 = .ok (.iconst 3, 1)) (by decide) ?_
      refine g_callVI [.int (nI q), .int (nI 3)] (by decide +kernel : decode prog_10_method_49_code 61 = .ok (.invokevirtual 169, 3)) lk_Md_169 (m_its (mS σ f b) q 3 (v := f (19 + 6 * q + 3)) rfl (by omega)) rfl rfl rfl rfl (Nat.le_of_ble_eq_true rfl) (Nat.le_of_ble_eq_true rfl) (fun r61 s61 h61 => ?_)
      obtain ⟨rfl, rfl⟩ := h61
      refine g_aload_n (by decide +kernel : decode prog_10_method_49_code 64 = .ok (.aload_n 0, 1)) rfl ?_
      refine g_iload_n (by decide +kernel : decode prog_10_method_49_code 65 = .ok (.iload_n 1, 1)) rfl ?_
      refine g_iconst (v := nI 3) (by decide +kernel : decode prog_10_method_49_code 66 = .ok (.iconst 3, 1)) (by decide) ?_
      refine g_callVI [.int (nI o), .int (nI 3)] (by decide +kernel : decode prog_10_method_49_code 67 = .ok (.invokevirtual 169, 3)) lk_Md_169 (m_its (mS σ f b) o 3 (v := f (19 + 6 * o + 3)) rfl (by omega)) rfl rfl rfl rfl (Nat.le_of_ble_eq_true rfl) (Nat.le_of_ble_eq_true rfl) (fun r67 s67 h67 => ?_)
      obtain ⟨rfl, rfl⟩ := h67
      refine g_icmp_ne (tgt := 151) (by decide +kernel : decode prog_10_method_49_code 70 = .ok (.if_icmp .ne 81, 3)) (by decide) (fun h70 => ?_) (fun h70 => ?_)
      · refine g_iincN (n := 1) (L' := [some (.ref 0), some (.int (nI o)), some (.int (nI 1)), some (.int (nI (q + 1)))]) (by decide +kernel : decode prog_10_method_49_code 151 = .ok (.iinc 3 1, 3)) rfl (by decide) (Nat.le_of_ble_eq_true rfl) rfl ?_
        refine g_goto (tgt := 34) (by decide +kernel : decode prog_10_method_49_code 154 = .ok (.goto (-120), 3)) (by decide) ?_
        exact ih (q + 1) (by omega) (by omega) (by rw [← hr]; exact (findQ_no (by omega) (fun z => h70 z.2.1)).symm) hR
      · refine g_aload_n (by decide +kernel : decode prog_10_method_49_code 73 = .ok (.aload_n 0, 1)) rfl ?_
        refine g_iload_n (by decide +kernel : decode prog_10_method_49_code 74 = .ok (.iload_n 3, 1)) rfl ?_
        refine g_callVI [.int (nI q)] (by decide +kernel : decode prog_10_method_49_code 75 = .ok (.invokevirtual 177, 3)) lk_Md_177 (m_hides σ f b hI q (by omega)) rfl rfl rfl rfl (Nat.le_of_ble_eq_true rfl) (Nat.le_of_ble_eq_true rfl) (fun r75 s75 h75 => ?_)
        obtain ⟨rfl, rfl⟩ := h75
        refine g_aload_n (by decide +kernel : decode prog_10_method_49_code 78 = .ok (.aload_n 0, 1)) rfl ?_
        refine g_iload_n (by decide +kernel : decode prog_10_method_49_code 79 = .ok (.iload_n 1, 1)) rfl ?_
        refine g_callVI [.int (nI o)] (by decide +kernel : decode prog_10_method_49_code 80 = .ok (.invokevirtual 180, 3)) lk_Md_180 (m_sees σ f b hI o (by omega)) rfl rfl rfl rfl (Nat.le_of_ble_eq_true rfl) (Nat.le_of_ble_eq_true rfl) (fun r80 s80 h80 => ?_)
        obtain ⟨rfl, rfl⟩ := h80
        refine g_icmp_ge (tgt := 151) (by decide +kernel : decode prog_10_method_49_code 83 = .ok (.if_icmp .ge 68, 3)) (by decide) (fun h83 => ?_) (fun h83 => ?_)
        · refine g_iincN (n := 1) (L' := [some (.ref 0), some (.int (nI o)), some (.int (nI 1)), some (.int (nI (q + 1)))]) (by decide +kernel : decode prog_10_method_49_code 151 = .ok (.iinc 3 1, 3)) rfl (by decide) (Nat.le_of_ble_eq_true rfl) rfl ?_
          refine g_goto (tgt := 34) (by decide +kernel : decode prog_10_method_49_code 154 = .ok (.goto (-120), 3)) (by decide) ?_
          exact ih (q + 1) (by omega) (by omega) (by rw [← hr]; exact (findQ_no (by omega) (fun z => absurd h83 (Int32.not_le.mpr z.2.2))).symm) hR
        · refine g_aload_n (by decide +kernel : decode prog_10_method_49_code 86 = .ok (.aload_n 0, 1)) rfl ?_
          refine g_getR (by decide +kernel : decode prog_10_method_49_code 87 = .ok (.getfield 7, 3)) fl_Md_7 rfl rfl ?_
          refine g_bipush (v := nI 19) (by decide +kernel : decode prog_10_method_49_code 90 = .ok (.bipush 19, 2)) (by decide) ?_
          refine g_bipush (v := nI 6) (by decide +kernel : decode prog_10_method_49_code 92 = .ok (.bipush 6, 2)) (by decide) ?_
          refine g_iload_n (by decide +kernel : decode prog_10_method_49_code 94 = .ok (.iload_n 3, 1)) rfl ?_
          refine g_imulN (by decide +kernel : decode prog_10_method_49_code 95 = .ok (.imul, 1)) ?_
          refine g_iaddN (by decide +kernel : decode prog_10_method_49_code 96 = .ok (.iadd, 1)) ?_
          refine g_iconst (v := nI 4) (by decide +kernel : decode prog_10_method_49_code 97 = .ok (.iconst 4, 1)) (by decide) ?_
          refine g_iaddN (by decide +kernel : decode prog_10_method_49_code 98 = .ok (.iadd, 1)) ?_
          refine g_iconst (v := nI 0) (by decide +kernel : decode prog_10_method_49_code 99 = .ok (.iconst 0, 1)) (by decide) ?_
          refine g_iastore (a := 19 + 6 * q + 4) (by decide +kernel : decode prog_10_method_49_code 100 = .ok (.iastore, 1)) rfl rfl (by omega) (by decide) ?_
          refine g_sto (mS_u1 _ _ _ _ _) ?_
          refine g_aload_n (by decide +kernel : decode prog_10_method_49_code 101 = .ok (.aload_n 0, 1)) rfl ?_
          refine g_getR (by decide +kernel : decode prog_10_method_49_code 102 = .ok (.getfield 7, 3)) fl_Md_7 rfl rfl ?_
          refine g_bipush (v := nI 19) (by decide +kernel : decode prog_10_method_49_code 105 = .ok (.bipush 19, 2)) (by decide) ?_
          refine g_bipush (v := nI 6) (by decide +kernel : decode prog_10_method_49_code 107 = .ok (.bipush 6, 2)) (by decide) ?_
          refine g_iload_n (by decide +kernel : decode prog_10_method_49_code 109 = .ok (.iload_n 1, 1)) rfl ?_
          refine g_imulN (by decide +kernel : decode prog_10_method_49_code 110 = .ok (.imul, 1)) ?_
          refine g_iaddN (by decide +kernel : decode prog_10_method_49_code 111 = .ok (.iadd, 1)) ?_
          refine g_iconst (v := nI 4) (by decide +kernel : decode prog_10_method_49_code 112 = .ok (.iconst 4, 1)) (by decide) ?_
          refine g_iaddN (by decide +kernel : decode prog_10_method_49_code 113 = .ok (.iadd, 1)) ?_
          refine g_iconst (v := nI 1) (by decide +kernel : decode prog_10_method_49_code 114 = .ok (.iconst 1, 1)) (by decide) ?_
          refine g_iastore (a := 19 + 6 * o + 4) (by decide +kernel : decode prog_10_method_49_code 115 = .ok (.iastore, 1)) rfl rfl (by omega) (by decide) ?_
          refine g_sto (mS_u1 _ _ _ _ _) ?_
          refine g_aload_n (by decide +kernel : decode prog_10_method_49_code 116 = .ok (.aload_n 0, 1)) rfl ?_
          refine g_getR (by decide +kernel : decode prog_10_method_49_code 117 = .ok (.getfield 7, 3)) fl_Md_7 rfl rfl ?_
          refine g_bipush (v := nI 19) (by decide +kernel : decode prog_10_method_49_code 120 = .ok (.bipush 19, 2)) (by decide) ?_
          refine g_bipush (v := nI 6) (by decide +kernel : decode prog_10_method_49_code 122 = .ok (.bipush 6, 2)) (by decide) ?_
          refine g_iload_n (by decide +kernel : decode prog_10_method_49_code 124 = .ok (.iload_n 1, 1)) rfl ?_
          refine g_imulN (by decide +kernel : decode prog_10_method_49_code 125 = .ok (.imul, 1)) ?_
          refine g_iaddN (by decide +kernel : decode prog_10_method_49_code 126 = .ok (.iadd, 1)) ?_
          refine g_iconst (v := nI 5) (by decide +kernel : decode prog_10_method_49_code 127 = .ok (.iconst 5, 1)) (by decide) ?_
          refine g_iaddN (by decide +kernel : decode prog_10_method_49_code 128 = .ok (.iadd, 1)) ?_
          refine g_bipush (v := nI 99) (by decide +kernel : decode prog_10_method_49_code 129 = .ok (.bipush 99, 2)) (by decide) ?_
          refine g_aload_n (by decide +kernel : decode prog_10_method_49_code 131 = .ok (.aload_n 0, 1)) rfl ?_
          refine g_iload_n (by decide +kernel : decode prog_10_method_49_code 132 = .ok (.iload_n 1, 1)) rfl ?_
          refine g_iconst (v := nI 5) (by decide +kernel : decode prog_10_method_49_code 133 = .ok (.iconst 5, 1)) (by decide) ?_
          refine g_callVI [.int (nI o), .int (nI 5)] (by decide +kernel : decode prog_10_method_49_code 134 = .ok (.invokevirtual 169, 3)) lk_Md_169 (m_its (mS σ (upd (upd f (19 + 6 * q + 4) (nI 0)) (19 + 6 * o + 4) (nI 1)) b) o 5 (v := (upd (upd f (19 + 6 * q + 4) (nI 0)) (19 + 6 * o + 4) (nI 1)) (19 + 6 * o + 5)) rfl (by omega)) rfl rfl rfl rfl (Nat.le_of_ble_eq_true rfl) (Nat.le_of_ble_eq_true rfl) (fun r134 s134 h134 => ?_)
          obtain ⟨rfl, rfl⟩ := h134
          refine g_iconst (v := nI 1) (by decide +kernel : decode prog_10_method_49_code 137 = .ok (.iconst 1, 1)) (by decide) ?_
          refine g_iadd (by decide +kernel : decode prog_10_method_49_code 138 = .ok (.iadd, 1)) ?_
          refine g_callSI [.int (nI 99), .int (((upd (upd f (19 + 6 * q + 4) (nI 0)) (19 + 6 * o + 4) (nI 1)) (19 + 6 * o + 5)) + (nI 1))] (by decide +kernel : decode prog_10_method_49_code 139 = .ok (.invokestatic 195, 3)) lk_Md_195 (m_lst ΛM (mS σ (upd (upd f (19 + 6 * q + 4) (nI 0)) (19 + 6 * o + 4) (nI 1)) b) (nI 99) (((upd (upd f (19 + 6 * q + 4) (nI 0)) (19 + 6 * o + 4) (nI 1)) (19 + 6 * o + 5)) + (nI 1))) rfl rfl (Nat.le_of_ble_eq_true rfl) (Nat.le_of_ble_eq_true rfl) (fun r139 s139 h139 => ?_)
          obtain ⟨rfl, rfl⟩ := h139
          refine g_iastore (a := 19 + 6 * o + 5) (by decide +kernel : decode prog_10_method_49_code 142 = .ok (.iastore, 1)) rfl rfl (by omega) (by decide) ?_
          refine g_sto (mS_u1 _ _ _ _ _) ?_
          refine g_aload_n (by decide +kernel : decode prog_10_method_49_code 143 = .ok (.aload_n 0, 1)) rfl ?_
          refine g_getR (by decide +kernel : decode prog_10_method_49_code 144 = .ok (.getfield 25, 3)) fl_Md_25 rfl rfl ?_
          refine g_iload_n (by decide +kernel : decode prog_10_method_49_code 147 = .ok (.iload_n 3, 1)) rfl ?_
          refine g_iload_n (by decide +kernel : decode prog_10_method_49_code 148 = .ok (.iload_n 1, 1)) rfl ?_
          refine g_iastore (a := q) (by decide +kernel : decode prog_10_method_49_code 149 = .ok (.iastore, 1)) rfl rfl (by omega) (by decide) ?_
          refine g_sto (mS_u6 _ _ _ _ _) ?_
          exact g_vret hR (by decide +kernel : decode prog_10_method_49_code 150 = .ok (.return_, 1)) rfl ⟨rfl, by rw [← hr, findQ_yes (by omega) ⟨h55, h70, Int32.not_le.mp h83⟩]; rfl⟩
set_option maxRecDepth 20000 in
theorem m_seeks1 (σ : Store) (f b : Row) (hI : Inv f) (o : Nat) (ho : o < nn f) : Ct ΛM mt_Md_seeks 2 [.ref 0, .int (nI o), .int (nI 1)] (mS σ f b) (PU (mS σ (seekF (go1 f o) o (seekQ f o true)) (seekB b o (seekQ f o true)))) := by
  refine Ct.of (by decide) (Nat.le_of_ble_eq_true rfl) (fun X hR => ?_)
  show G (ΛM, mt_Md_seeks, 2) X (mS σ f b) [some (.ref 0), some (.int (nI o)), some (.int (nI 1)), none] [] 0
  have hn8 := hI.n.2
  refine g_aload_n (by decide +kernel : decode prog_10_method_49_code 0 = .ok (.aload_n 0, 1)) rfl ?_
  refine g_getR (by decide +kernel : decode prog_10_method_49_code 1 = .ok (.getfield 7, 3)) fl_Md_7 rfl rfl ?_
  refine g_bipush (v := nI 19) (by decide +kernel : decode prog_10_method_49_code 4 = .ok (.bipush 19, 2)) (by decide) ?_
  refine g_bipush (v := nI 6) (by decide +kernel : decode prog_10_method_49_code 6 = .ok (.bipush 6, 2)) (by decide) ?_
  refine g_iload_n (by decide +kernel : decode prog_10_method_49_code 8 = .ok (.iload_n 1, 1)) rfl ?_
  refine g_imulN (by decide +kernel : decode prog_10_method_49_code 9 = .ok (.imul, 1)) ?_
  refine g_iaddN (by decide +kernel : decode prog_10_method_49_code 10 = .ok (.iadd, 1)) ?_
  refine g_iconst (v := nI 3) (by decide +kernel : decode prog_10_method_49_code 11 = .ok (.iconst 3, 1)) (by decide) ?_
  refine g_iaddN (by decide +kernel : decode prog_10_method_49_code 12 = .ok (.iadd, 1)) ?_
  refine g_aload_n (by decide +kernel : decode prog_10_method_49_code 13 = .ok (.aload_n 0, 1)) rfl ?_
  refine g_iload_n (by decide +kernel : decode prog_10_method_49_code 14 = .ok (.iload_n 1, 1)) rfl ?_
  refine g_iconst (v := nI 3) (by decide +kernel : decode prog_10_method_49_code 15 = .ok (.iconst 3, 1)) (by decide) ?_
  refine g_callVI [.int (nI o), .int (nI 3)] (by decide +kernel : decode prog_10_method_49_code 16 = .ok (.invokevirtual 169, 3)) lk_Md_169 (m_its (mS σ f b) o 3 (v := f (19 + 6 * o + 3)) rfl (by omega)) rfl rfl rfl rfl (Nat.le_of_ble_eq_true rfl) (Nat.le_of_ble_eq_true rfl) (fun r16 s16 h16 => ?_)
  obtain ⟨rfl, rfl⟩ := h16
  refine g_aload_n (by decide +kernel : decode prog_10_method_49_code 19 = .ok (.aload_n 0, 1)) rfl ?_
  refine g_iload_n (by decide +kernel : decode prog_10_method_49_code 20 = .ok (.iload_n 1, 1)) rfl ?_
  refine g_callVI [.int (nI o)] (by decide +kernel : decode prog_10_method_49_code 21 = .ok (.invokevirtual 183, 3)) lk_Md_183 (m_strides σ f b hI o ho) rfl rfl rfl rfl (Nat.le_of_ble_eq_true rfl) (Nat.le_of_ble_eq_true rfl) (fun r21 s21 h21 => ?_)
  obtain ⟨rfl, rfl⟩ := h21
  refine g_iadd (by decide +kernel : decode prog_10_method_49_code 24 = .ok (.iadd, 1)) ?_
  refine g_bipush (v := nI 12) (by decide +kernel : decode prog_10_method_49_code 25 = .ok (.bipush 12, 2)) (by decide) ?_
  refine g_iadd (by decide +kernel : decode prog_10_method_49_code 27 = .ok (.iadd, 1)) ?_
  refine g_bipush (v := nI 12) (by decide +kernel : decode prog_10_method_49_code 28 = .ok (.bipush 12, 2)) (by decide) ?_
  refine g_irem (by decide +kernel : decode prog_10_method_49_code 30 = .ok (.irem, 1)) (by decide) ?_
  refine g_iastore (a := 19 + 6 * o + 3) (by decide +kernel : decode prog_10_method_49_code 31 = .ok (.iastore, 1)) rfl rfl (by omega) (by decide) ?_
  refine g_sto (mS_u1 _ _ _ _ _) ?_
  refine g_iconst (v := nI 0) (by decide +kernel : decode prog_10_method_49_code 32 = .ok (.iconst 0, 1)) (by decide) ?_
  refine g_istore_n (L' := [some (.ref 0), some (.int (nI o)), some (.int (nI 1)), some (.int (nI 0))]) (by decide +kernel : decode prog_10_method_49_code 33 = .ok (.istore_n 3, 1)) (Nat.le_of_ble_eq_true rfl) rfl ?_
  exact m_seeks_lp (f := go1 f o) (go1_inv hI ho).1 (by rw [(go1_inv hI ho).2]; exact ho) (nn (go1 f o) + 1) 0 (Nat.zero_le _) (by omega) (by rw [(go1_inv hI ho).2]; rfl) hR
set_option maxRecDepth 20000 in
theorem m_seeks0 (σ : Store) (f b : Row) (hI : Inv f) (o : Nat) (ho : o < nn f) : Ct ΛM mt_Md_seeks 2 [.ref 0, .int (nI o), .int (nI 0)] (mS σ f b) (PU (mS σ (go1 f o) b)) := by
  refine Ct.of (by decide) (Nat.le_of_ble_eq_true rfl) (fun X hR => ?_)
  show G (ΛM, mt_Md_seeks, 2) X (mS σ f b) [some (.ref 0), some (.int (nI o)), some (.int (nI 0)), none] [] 0
  have hn8 := hI.n.2
  refine g_aload_n (by decide +kernel : decode prog_10_method_49_code 0 = .ok (.aload_n 0, 1)) rfl ?_
  refine g_getR (by decide +kernel : decode prog_10_method_49_code 1 = .ok (.getfield 7, 3)) fl_Md_7 rfl rfl ?_
  refine g_bipush (v := nI 19) (by decide +kernel : decode prog_10_method_49_code 4 = .ok (.bipush 19, 2)) (by decide) ?_
  refine g_bipush (v := nI 6) (by decide +kernel : decode prog_10_method_49_code 6 = .ok (.bipush 6, 2)) (by decide) ?_
  refine g_iload_n (by decide +kernel : decode prog_10_method_49_code 8 = .ok (.iload_n 1, 1)) rfl ?_
  refine g_imulN (by decide +kernel : decode prog_10_method_49_code 9 = .ok (.imul, 1)) ?_
  refine g_iaddN (by decide +kernel : decode prog_10_method_49_code 10 = .ok (.iadd, 1)) ?_
  refine g_iconst (v := nI 3) (by decide +kernel : decode prog_10_method_49_code 11 = .ok (.iconst 3, 1)) (by decide) ?_
  refine g_iaddN (by decide +kernel : decode prog_10_method_49_code 12 = .ok (.iadd, 1)) ?_
  refine g_aload_n (by decide +kernel : decode prog_10_method_49_code 13 = .ok (.aload_n 0, 1)) rfl ?_
  refine g_iload_n (by decide +kernel : decode prog_10_method_49_code 14 = .ok (.iload_n 1, 1)) rfl ?_
  refine g_iconst (v := nI 3) (by decide +kernel : decode prog_10_method_49_code 15 = .ok (.iconst 3, 1)) (by decide) ?_
  refine g_callVI [.int (nI o), .int (nI 3)] (by decide +kernel : decode prog_10_method_49_code 16 = .ok (.invokevirtual 169, 3)) lk_Md_169 (m_its (mS σ f b) o 3 (v := f (19 + 6 * o + 3)) rfl (by omega)) rfl rfl rfl rfl (Nat.le_of_ble_eq_true rfl) (Nat.le_of_ble_eq_true rfl) (fun r16 s16 h16 => ?_)
  obtain ⟨rfl, rfl⟩ := h16
  refine g_aload_n (by decide +kernel : decode prog_10_method_49_code 19 = .ok (.aload_n 0, 1)) rfl ?_
  refine g_iload_n (by decide +kernel : decode prog_10_method_49_code 20 = .ok (.iload_n 1, 1)) rfl ?_
  refine g_callVI [.int (nI o)] (by decide +kernel : decode prog_10_method_49_code 21 = .ok (.invokevirtual 183, 3)) lk_Md_183 (m_strides σ f b hI o ho) rfl rfl rfl rfl (Nat.le_of_ble_eq_true rfl) (Nat.le_of_ble_eq_true rfl) (fun r21 s21 h21 => ?_)
  obtain ⟨rfl, rfl⟩ := h21
  refine g_iadd (by decide +kernel : decode prog_10_method_49_code 24 = .ok (.iadd, 1)) ?_
  refine g_bipush (v := nI 12) (by decide +kernel : decode prog_10_method_49_code 25 = .ok (.bipush 12, 2)) (by decide) ?_
  refine g_iadd (by decide +kernel : decode prog_10_method_49_code 27 = .ok (.iadd, 1)) ?_
  refine g_bipush (v := nI 12) (by decide +kernel : decode prog_10_method_49_code 28 = .ok (.bipush 12, 2)) (by decide) ?_
  refine g_irem (by decide +kernel : decode prog_10_method_49_code 30 = .ok (.irem, 1)) (by decide) ?_
  refine g_iastore (a := 19 + 6 * o + 3) (by decide +kernel : decode prog_10_method_49_code 31 = .ok (.iastore, 1)) rfl rfl (by omega) (by decide) ?_
  refine g_sto (mS_u1 _ _ _ _ _) ?_
  refine g_iconst (v := nI 0) (by decide +kernel : decode prog_10_method_49_code 32 = .ok (.iconst 0, 1)) (by decide) ?_
  refine g_istore_n (L' := [some (.ref 0), some (.int (nI o)), some (.int (nI 0)), some (.int (nI 0))]) (by decide +kernel : decode prog_10_method_49_code 33 = .ok (.istore_n 3, 1)) (Nat.le_of_ble_eq_true rfl) rfl ?_
  refine g_iload_n (by decide +kernel : decode prog_10_method_49_code 34 = .ok (.iload_n 3, 1)) rfl ?_
  refine g_aload_n (by decide +kernel : decode prog_10_method_49_code 35 = .ok (.aload_n 0, 1)) rfl ?_
  refine g_getR (by decide +kernel : decode prog_10_method_49_code 36 = .ok (.getfield 7, 3)) fl_Md_7 rfl rfl ?_
  refine g_iconst (v := nI 0) (by decide +kernel : decode prog_10_method_49_code 39 = .ok (.iconst 0, 1)) (by decide) ?_
  refine g_iaload (a := 0) (by decide +kernel : decode prog_10_method_49_code 40 = .ok (.iaload, 1)) rfl rfl (by decide) (by decide) ?_
  refine g_top (w := nI (nn f)) (by rw [mS_1, upd_n (by omega)]; exact hI.n.1) ?_
  refine g_icmp_geN (tgt := 157) (by decide +kernel : decode prog_10_method_49_code 41 = .ok (.if_icmp .ge 116, 3)) (by decide) (by decide) (by omega) (fun h41 => ?_) (fun h41 => ?_)
  · exact g_vret hR (by decide +kernel : decode prog_10_method_49_code 157 = .ok (.return_, 1)) rfl ⟨rfl, rfl⟩
  · refine g_iload_n (by decide +kernel : decode prog_10_method_49_code 44 = .ok (.iload_n 2, 1)) rfl ?_
    refine g_if_eqN (tgt := 157) (by decide +kernel : decode prog_10_method_49_code 45 = .ok (.ifCond .eq 112, 3)) (by decide) (by decide) (fun _ => ?_) (fun h => absurd (by decide) h)
    exact g_vret hR (by decide +kernel : decode prog_10_method_49_code 157 = .ok (.return_, 1)) rfl ⟨rfl, rfl⟩
theorem m_seeks (σ : Store) (f b : Row) (hI : Inv f) (o : Nat) (ho : o < nn f) (may : Bool) : Ct ΛM mt_Md_seeks 2 [.ref 0, .int (nI o), .int (nI (if may then 1 else 0))] (mS σ f b) (PU (mS σ (seekF (go1 f o) o (seekQ f o may)) (seekB b o (seekQ f o may)))) := by
  cases may with
  | true => exact m_seeks1 σ f b hI o ho
  | false => exact m_seeks0 σ f b hI o ho
set_option maxRecDepth 20000 in
theorem m_year_lp1 {X : CX} {σ : Store} {f b : Row} (hI : Inv f) {m : Nat} (hK : G (ΛM, mt_Md_goesBy, 3) X (mS σ (growN f (nn f)) (rstB b (nn f))) [some (.ref 0), some (.int (nI m)), none, none] [] 93) : ∀ (b9 k : Nat), k ≤ nn f → nn f - k < b9 → G (ΛM, mt_Md_goesBy, 3) X (mS σ (growN f k) (rstB b k)) [some (.ref 0), some (.int (nI m)), some (.int (nI k)), none] [] 2 := by
  have hn8 := hI.n.2
  intro b9
  induction b9 with
  | zero => intro k hk hb; omega
  | succ b9 ih =>
  intro k hk hb
  have hg := (growN_inv hI k hk).1
  have hg0 : nn f = nn (growN f k) := (growN_inv hI k hk).2.symm
  refine g_iload_n (by decide +kernel : decode prog_10_method_50_code 2 = .ok (.iload_n 2, 1)) rfl ?_
  refine g_aload_n (by decide +kernel : decode prog_10_method_50_code 3 = .ok (.aload_n 0, 1)) rfl ?_
  refine g_getR (by decide +kernel : decode prog_10_method_50_code 4 = .ok (.getfield 7, 3)) fl_Md_7 rfl rfl ?_
  refine g_iconst (v := nI 0) (by decide +kernel : decode prog_10_method_50_code 7 = .ok (.iconst 0, 1)) (by decide) ?_
  refine g_iaload (a := 0) (by decide +kernel : decode prog_10_method_50_code 8 = .ok (.iaload, 1)) rfl rfl (by decide) (by decide) ?_
  refine g_top (w := nI (nn f)) (by show growN f k 0 = _; rw [hg0]; exact hg.n.1) ?_
  refine g_icmp_geN (tgt := 93) (by decide +kernel : decode prog_10_method_50_code 9 = .ok (.if_icmp .ge 84, 3)) (by decide) (by omega) (by omega) (fun h9 => ?_) (fun h9 => ?_)
  · obtain rfl : k = nn f := by omega
    refine g_sub (L' := [some (.ref 0), some (.int (nI m)), none, none]) ⟨rfl, rfl, trivial⟩ ?_
    exact hK
  · refine g_aload_n (by decide +kernel : decode prog_10_method_50_code 12 = .ok (.aload_n 0, 1)) rfl ?_
    refine g_getR (by decide +kernel : decode prog_10_method_50_code 13 = .ok (.getfield 25, 3)) fl_Md_25 rfl rfl ?_
    refine g_iload_n (by decide +kernel : decode prog_10_method_50_code 16 = .ok (.iload_n 2, 1)) rfl ?_
    refine g_iconst (v := (-1)) (by decide +kernel : decode prog_10_method_50_code 17 = .ok (.iconst (-1), 1)) (by decide) ?_
    refine g_iastore (a := k) (by decide +kernel : decode prog_10_method_50_code 18 = .ok (.iastore, 1)) rfl rfl (by omega) (by decide) ?_
    refine g_sto (mS_u6 _ _ _ _ _) ?_
    refine g_bipush (v := nI 19) (by decide +kernel : decode prog_10_method_50_code 19 = .ok (.bipush 19, 2)) (by decide) ?_
    refine g_bipush (v := nI 6) (by decide +kernel : decode prog_10_method_50_code 21 = .ok (.bipush 6, 2)) (by decide) ?_
    refine g_iload_n (by decide +kernel : decode prog_10_method_50_code 23 = .ok (.iload_n 2, 1)) rfl ?_
    refine g_imulN (by decide +kernel : decode prog_10_method_50_code 24 = .ok (.imul, 1)) ?_
    refine g_iaddN (by decide +kernel : decode prog_10_method_50_code 25 = .ok (.iadd, 1)) ?_
    refine g_istore_n (L' := [some (.ref 0), some (.int (nI m)), some (.int (nI k)), some (.int (nI (19 + 6 * k)))]) (by decide +kernel : decode prog_10_method_50_code 26 = .ok (.istore_n 3, 1)) (Nat.le_of_ble_eq_true rfl) rfl ?_
    refine g_aload_n (by decide +kernel : decode prog_10_method_50_code 27 = .ok (.aload_n 0, 1)) rfl ?_
    refine g_getR (by decide +kernel : decode prog_10_method_50_code 28 = .ok (.getfield 7, 3)) fl_Md_7 rfl rfl ?_
    refine g_iload_n (by decide +kernel : decode prog_10_method_50_code 31 = .ok (.iload_n 3, 1)) rfl ?_
    refine g_iconst (v := nI 1) (by decide +kernel : decode prog_10_method_50_code 32 = .ok (.iconst 1, 1)) (by decide) ?_
    refine g_iaddN (by decide +kernel : decode prog_10_method_50_code 33 = .ok (.iadd, 1)) ?_
    refine g_bipush (v := nI 99) (by decide +kernel : decode prog_10_method_50_code 34 = .ok (.bipush 99, 2)) (by decide) ?_
    refine g_aload_n (by decide +kernel : decode prog_10_method_50_code 36 = .ok (.aload_n 0, 1)) rfl ?_
    refine g_getR (by decide +kernel : decode prog_10_method_50_code 37 = .ok (.getfield 7, 3)) fl_Md_7 rfl rfl ?_
    refine g_iload_n (by decide +kernel : decode prog_10_method_50_code 40 = .ok (.iload_n 3, 1)) rfl ?_
    refine g_iconst (v := nI 1) (by decide +kernel : decode prog_10_method_50_code 41 = .ok (.iconst 1, 1)) (by decide) ?_
    refine g_iaddN (by decide +kernel : decode prog_10_method_50_code 42 = .ok (.iadd, 1)) ?_
    refine g_iaload (a := 19 + 6 * k + 1) (by decide +kernel : decode prog_10_method_50_code 43 = .ok (.iaload, 1)) rfl rfl (by omega) (by decide) ?_
    refine g_top (w := (growN f k) (19 + 6 * k + 1)) (rfl) ?_
    refine g_iconst (v := nI 1) (by decide +kernel : decode prog_10_method_50_code 44 = .ok (.iconst 1, 1)) (by decide) ?_
    refine g_iadd (by decide +kernel : decode prog_10_method_50_code 45 = .ok (.iadd, 1)) ?_
    refine g_callSI [.int (nI 99), .int (((growN f k) (19 + 6 * k + 1)) + (nI 1))] (by decide +kernel : decode prog_10_method_50_code 46 = .ok (.invokestatic 195, 3)) lk_Md_195 (m_lst ΛM (mS σ (growN f k) (upd (rstB b k) k (-1))) (nI 99) (((growN f k) (19 + 6 * k + 1)) + (nI 1))) rfl rfl (Nat.le_of_ble_eq_true rfl) (Nat.le_of_ble_eq_true rfl) (fun r46 s46 h46 => ?_)
    obtain ⟨rfl, rfl⟩ := h46
    refine g_iastore (a := 19 + 6 * k + 1) (by decide +kernel : decode prog_10_method_50_code 49 = .ok (.iastore, 1)) rfl rfl (by omega) (by decide) ?_
    refine g_sto (mS_u1 _ _ _ _ _) ?_
    refine g_aload_n (by decide +kernel : decode prog_10_method_50_code 50 = .ok (.aload_n 0, 1)) rfl ?_
    refine g_getR (by decide +kernel : decode prog_10_method_50_code 51 = .ok (.getfield 7, 3)) fl_Md_7 rfl rfl ?_
    refine g_iload_n (by decide +kernel : decode prog_10_method_50_code 54 = .ok (.iload_n 3, 1)) rfl ?_
    refine g_iconst (v := nI 4) (by decide +kernel : decode prog_10_method_50_code 55 = .ok (.iconst 4, 1)) (by decide) ?_
    refine g_iaddN (by decide +kernel : decode prog_10_method_50_code 56 = .ok (.iadd, 1)) ?_
    refine g_aload_n (by decide +kernel : decode prog_10_method_50_code 57 = .ok (.aload_n 0, 1)) rfl ?_
    refine g_getR (by decide +kernel : decode prog_10_method_50_code 58 = .ok (.getfield 7, 3)) fl_Md_7 rfl rfl ?_
    refine g_iload_n (by decide +kernel : decode prog_10_method_50_code 61 = .ok (.iload_n 3, 1)) rfl ?_
    refine g_iconst (v := nI 1) (by decide +kernel : decode prog_10_method_50_code 62 = .ok (.iconst 1, 1)) (by decide) ?_
    refine g_iaddN (by decide +kernel : decode prog_10_method_50_code 63 = .ok (.iadd, 1)) ?_
    refine g_iaload (a := 19 + 6 * k + 1) (by decide +kernel : decode prog_10_method_50_code 64 = .ok (.iaload, 1)) rfl rfl (by omega) (by decide) ?_
    refine g_top (w := (upd (growN f k) (19 + 6 * k + 1) (lst (nI 99) (((growN f k) (19 + 6 * k + 1)) + (nI 1)))) (19 + 6 * k + 1)) (rfl) ?_
    refine g_aload_n (by decide +kernel : decode prog_10_method_50_code 65 = .ok (.aload_n 0, 1)) rfl ?_
    refine g_getR (by decide +kernel : decode prog_10_method_50_code 66 = .ok (.getfield 7, 3)) fl_Md_7 rfl rfl ?_
    refine g_iconst (v := nI 3) (by decide +kernel : decode prog_10_method_50_code 69 = .ok (.iconst 3, 1)) (by decide) ?_
    refine g_iaload (a := 3) (by decide +kernel : decode prog_10_method_50_code 70 = .ok (.iaload, 1)) rfl rfl (by decide) (by decide) ?_
    refine g_top (w := (upd (growN f k) (19 + 6 * k + 1) (lst (nI 99) (((growN f k) (19 + 6 * k + 1)) + (nI 1)))) 3) (rfl) ?_
    have J71 : G (ΛM, mt_Md_goesBy, 3) X (mS σ (upd (growN f k) (19 + 6 * k + 1) (lst (nI 99) (((growN f k) (19 + 6 * k + 1)) + (nI 1)))) (upd (rstB b k) k (-1))) [some (.ref 0), some (.int (nI m)), some (.int (nI k)), some (.int (nI (19 + 6 * k)))] [.int (if (upd (growN f k) (19 + 6 * k + 1) (lst (nI 99) (((growN f k) (19 + 6 * k + 1)) + (nI 1)))) (19 + 6 * k + 1) < (upd (growN f k) (19 + 6 * k + 1) (lst (nI 99) (((growN f k) (19 + 6 * k + 1)) + (nI 1)))) 3 then (upd (growN f k) (19 + 6 * k + 1) (lst (nI 99) (((growN f k) (19 + 6 * k + 1)) + (nI 1)))) (19 + 6 * k + 4) else nI 0), .int (nI (19 + 6 * k + 4)), .ref 1] 86 := by
      refine g_iastore (a := 19 + 6 * k + 4) (by decide +kernel : decode prog_10_method_50_code 86 = .ok (.iastore, 1)) rfl rfl (by omega) (by decide) ?_
      refine g_sto (mS_u1 _ _ _ _ _) ?_
      refine g_iincN (n := 1) (L' := [some (.ref 0), some (.int (nI m)), some (.int (nI (k + 1))), some (.int (nI (19 + 6 * k)))]) (by decide +kernel : decode prog_10_method_50_code 87 = .ok (.iinc 2 1, 3)) rfl (by decide) (Nat.le_of_ble_eq_true rfl) rfl ?_
      refine g_goto (tgt := 2) (by decide +kernel : decode prog_10_method_50_code 90 = .ok (.goto (-88), 3)) (by decide) ?_
      refine g_sub (L' := [some (.ref 0), some (.int (nI m)), some (.int (nI (k + 1))), none]) ⟨rfl, rfl, rfl, trivial⟩ ?_
      exact ih (k + 1) (by omega) (by omega)
    refine g_icmp_lt (tgt := 78) (by decide +kernel : decode prog_10_method_50_code 71 = .ok (.if_icmp .lt 7, 3)) (by decide) (fun h71 => ?_) (fun h71 => ?_)
    · refine g_aload_n (by decide +kernel : decode prog_10_method_50_code 78 = .ok (.aload_n 0, 1)) rfl ?_
      refine g_getR (by decide +kernel : decode prog_10_method_50_code 79 = .ok (.getfield 7, 3)) fl_Md_7 rfl rfl ?_
      refine g_iload_n (by decide +kernel : decode prog_10_method_50_code 82 = .ok (.iload_n 3, 1)) rfl ?_
      refine g_iconst (v := nI 4) (by decide +kernel : decode prog_10_method_50_code 83 = .ok (.iconst 4, 1)) (by decide) ?_
      refine g_iaddN (by decide +kernel : decode prog_10_method_50_code 84 = .ok (.iadd, 1)) ?_
      refine g_iaload (a := 19 + 6 * k + 4) (by decide +kernel : decode prog_10_method_50_code 85 = .ok (.iaload, 1)) rfl rfl (by omega) (by decide) ?_
      refine g_top (w := (upd (growN f k) (19 + 6 * k + 1) (lst (nI 99) (((growN f k) (19 + 6 * k + 1)) + (nI 1)))) (19 + 6 * k + 4)) (rfl) ?_
      exact g_top (by simp only [h71, ↓reduceIte, not_true_eq_false, not_false_eq_true, if_true, if_false]) J71
    · refine g_iconst (v := nI 0) (by decide +kernel : decode prog_10_method_50_code 74 = .ok (.iconst 0, 1)) (by decide) ?_
      refine g_goto (tgt := 86) (by decide +kernel : decode prog_10_method_50_code 75 = .ok (.goto 11, 3)) (by decide) ?_
      exact g_top (by simp only [h71, ↓reduceIte, not_true_eq_false, not_false_eq_true, if_true, if_false]) J71
set_option maxRecDepth 20000 in
theorem m_year_lp2 {X : CX} {σ : Store} {f b : Row} (hI : Inv f) {m h : Nat} (hm : m < 256) (hh : h < 256) : ∀ (b9 k : Nat), k ≤ nn f → nn f - k < b9 → Rt (ΛM, mt_Md_goesBy, 3) (PU (mS σ (upd (seekN m h f b (nn f)).1 1 ((seekN m h f b (nn f)).1 1 + nI 1)) (seekN m h f b (nn f)).2)) X → G (ΛM, mt_Md_goesBy, 3) X (mS σ ((seekN m h f b k).1) ((seekN m h f b k).2)) [some (.ref 0), some (.int (nI m)), some (.int (nI h)), some (.int (nI k))] [] 100 := by
  have hn8 := hI.n.2
  intro b9
  induction b9 with
  | zero => intro k hk hb hR; omega
  | succ b9 ih =>
  intro k hk hb hR
  have hg := (seekN_inv (m := m) (hh := h) (b := b) hI k hk).1
  have hg0 : nn (seekN m h f b k).1 = nn f := (seekN_inv (m := m) (hh := h) (b := b) hI k hk).2
  refine g_iload_n (by decide +kernel : decode prog_10_method_50_code 100 = .ok (.iload_n 3, 1)) rfl ?_
  refine g_aload_n (by decide +kernel : decode prog_10_method_50_code 101 = .ok (.aload_n 0, 1)) rfl ?_
  refine g_getR (by decide +kernel : decode prog_10_method_50_code 102 = .ok (.getfield 7, 3)) fl_Md_7 rfl rfl ?_
  refine g_iconst (v := nI 0) (by decide +kernel : decode prog_10_method_50_code 105 = .ok (.iconst 0, 1)) (by decide) ?_
  refine g_iaload (a := 0) (by decide +kernel : decode prog_10_method_50_code 106 = .ok (.iaload, 1)) rfl rfl (by decide) (by decide) ?_
  refine g_top (w := nI (nn f)) (by show (seekN m h f b k).1 0 = _; rw [← hg0]; exact hg.n.1) ?_
  refine g_icmp_geN (tgt := 143) (by decide +kernel : decode prog_10_method_50_code 107 = .ok (.if_icmp .ge 36, 3)) (by decide) (by first | omega | (have h9 := ite1 (h.testBit k = true); omega) | (have h9 := ite1 (m.testBit k = true); omega)) (by first | omega | (have h9 := ite1 (h.testBit k = true); omega) | (have h9 := ite1 (m.testBit k = true); omega)) (fun h107 => ?_) (fun h107 => ?_)
  · refine g_aload_n (by decide +kernel : decode prog_10_method_50_code 143 = .ok (.aload_n 0, 1)) rfl ?_
    refine g_getR (by decide +kernel : decode prog_10_method_50_code 144 = .ok (.getfield 7, 3)) fl_Md_7 rfl rfl ?_
    refine g_iconst (v := nI 1) (by decide +kernel : decode prog_10_method_50_code 147 = .ok (.iconst 1, 1)) (by decide) ?_
    refine g_dup2 (by decide +kernel : decode prog_10_method_50_code 148 = .ok (.dup2, 1)) rfl rfl ?_
    refine g_iaload (a := 1) (by decide +kernel : decode prog_10_method_50_code 149 = .ok (.iaload, 1)) rfl rfl (by decide) (by decide) ?_
    refine g_top (w := ((seekN m h f b k).1) 1) (rfl) ?_
    refine g_iconst (v := nI 1) (by decide +kernel : decode prog_10_method_50_code 150 = .ok (.iconst 1, 1)) (by decide) ?_
    refine g_iadd (by decide +kernel : decode prog_10_method_50_code 151 = .ok (.iadd, 1)) ?_
    refine g_iastore (a := 1) (by decide +kernel : decode prog_10_method_50_code 152 = .ok (.iastore, 1)) rfl rfl (by decide) (by decide) ?_
    refine g_sto (mS_u1 _ _ _ _ _) ?_
    exact g_vret hR (by decide +kernel : decode prog_10_method_50_code 153 = .ok (.return_, 1)) rfl ⟨rfl, by rw [show k = nn f by omega]⟩
  · refine g_iload_n (by decide +kernel : decode prog_10_method_50_code 110 = .ok (.iload_n 2, 1)) rfl ?_
    refine g_iload_n (by decide +kernel : decode prog_10_method_50_code 111 = .ok (.iload_n 3, 1)) rfl ?_
    refine g_ishr (by decide +kernel : decode prog_10_method_50_code 112 = .ok (.ishr, 1)) ?_
    refine g_iconst (v := nI 1) (by decide +kernel : decode prog_10_method_50_code 113 = .ok (.iconst 1, 1)) (by decide) ?_
    refine g_iand (by decide +kernel : decode prog_10_method_50_code 114 = .ok (.iand, 1)) ?_
    refine g_top (w := nI (if h.testBit k then 1 else 0)) (nI_bit (by omega) (by omega)) ?_
    refine g_if_neN (tgt := 137) (by decide +kernel : decode prog_10_method_50_code 115 = .ok (.ifCond .ne 22, 3)) (by decide) (by first | omega | (have h9 := ite1 (h.testBit k = true); omega) | (have h9 := ite1 (m.testBit k = true); omega)) (fun h115 => ?_) (fun h115 => ?_)
    · refine g_iincN (n := 1) (L' := [some (.ref 0), some (.int (nI m)), some (.int (nI h)), some (.int (nI (k + 1)))]) (by decide +kernel : decode prog_10_method_50_code 137 = .ok (.iinc 3 1, 3)) rfl (by decide) (Nat.le_of_ble_eq_true rfl) rfl ?_
      refine g_goto (tgt := 100) (by decide +kernel : decode prog_10_method_50_code 140 = .ok (.goto (-40), 3)) (by decide) ?_
      refine g_sto (σ' := mS σ (seekN m h f b (k + 1)).1 (seekN m h f b (k + 1)).2) (by have hb' : h.testBit k = true := by { cases hz : h.testBit k with | true => rfl | false => rw [hz] at h115; exact absurd rfl h115 }; simp only [seekN, hb', ↓reduceIte]) ?_
      exact ih (k + 1) (by omega) (by omega) hR
    · refine g_aload_n (by decide +kernel : decode prog_10_method_50_code 118 = .ok (.aload_n 0, 1)) rfl ?_
      refine g_iload_n (by decide +kernel : decode prog_10_method_50_code 119 = .ok (.iload_n 3, 1)) rfl ?_
      refine g_iload_n (by decide +kernel : decode prog_10_method_50_code 120 = .ok (.iload_n 1, 1)) rfl ?_
      refine g_iload_n (by decide +kernel : decode prog_10_method_50_code 121 = .ok (.iload_n 3, 1)) rfl ?_
      refine g_ishr (by decide +kernel : decode prog_10_method_50_code 122 = .ok (.ishr, 1)) ?_
      refine g_iconst (v := nI 1) (by decide +kernel : decode prog_10_method_50_code 123 = .ok (.iconst 1, 1)) (by decide) ?_
      refine g_iand (by decide +kernel : decode prog_10_method_50_code 124 = .ok (.iand, 1)) ?_
      refine g_top (w := nI (if m.testBit k then 1 else 0)) (nI_bit (by omega) (by omega)) ?_
      refine g_iconst (v := nI 1) (by decide +kernel : decode prog_10_method_50_code 125 = .ok (.iconst 1, 1)) (by decide) ?_
      have J126 : G (ΛM, mt_Md_goesBy, 3) X (mS σ ((seekN m h f b k).1) ((seekN m h f b k).2)) [some (.ref 0), some (.int (nI m)), some (.int (nI h)), some (.int (nI k))] [.int (nI (if m.testBit k then 1 else 0)), .int (nI k), .ref 0] 134 := by
        refine g_callVV [.int (nI k), .int (nI (if m.testBit k then 1 else 0))] (by decide +kernel : decode prog_10_method_50_code 134 = .ok (.invokevirtual 198, 3)) lk_Md_198 (m_seeks σ (seekN m h f b k).1 (seekN m h f b k).2 hg k (by omega) (m.testBit k)) rfl rfl rfl rfl (Nat.le_of_ble_eq_true rfl) (Nat.le_of_ble_eq_true rfl) (fun s134 h134 => ?_)
        obtain rfl := h134
        refine g_iincN (n := 1) (L' := [some (.ref 0), some (.int (nI m)), some (.int (nI h)), some (.int (nI (k + 1)))]) (by decide +kernel : decode prog_10_method_50_code 137 = .ok (.iinc 3 1, 3)) rfl (by decide) (Nat.le_of_ble_eq_true rfl) rfl ?_
        refine g_goto (tgt := 100) (by decide +kernel : decode prog_10_method_50_code 140 = .ok (.goto (-40), 3)) (by decide) ?_
        refine g_sto (σ' := mS σ (seekN m h f b (k + 1)).1 (seekN m h f b (k + 1)).2) (by have hb' : h.testBit k = false := by { cases hz : h.testBit k with | false => rfl | true => rw [hz] at h115; exact absurd h115 (by decide) }; simp only [seekN, hb']; rfl) ?_
        exact ih (k + 1) (by omega) (by omega) hR
      refine g_icmp_neN (tgt := 133) (by decide +kernel : decode prog_10_method_50_code 126 = .ok (.if_icmp .ne 7, 3)) (by decide) (by first | omega | (have h9 := ite1 (h.testBit k = true); omega) | (have h9 := ite1 (m.testBit k = true); omega)) (by decide) (fun h126 => ?_) (fun h126 => ?_)
      · refine g_iconst (v := nI 0) (by decide +kernel : decode prog_10_method_50_code 133 = .ok (.iconst 0, 1)) (by decide) ?_
        exact g_top (congrArg nI (by have := ite1 (m.testBit k = true); omega)) J126
      · refine g_iconst (v := nI 1) (by decide +kernel : decode prog_10_method_50_code 129 = .ok (.iconst 1, 1)) (by decide) ?_
        refine g_goto (tgt := 134) (by decide +kernel : decode prog_10_method_50_code 130 = .ok (.goto 4, 3)) (by decide) ?_
        exact g_top (by rw [h126]) J126
set_option maxRecDepth 20000 in
theorem m_goesBy (σ : Store) (f b : Row) (hI : Inv f) (m : Nat) (hm : m < 256) : Ct ΛM mt_Md_goesBy 3 [.ref 0, .int (nI m)] (mS σ f b) (PU (mS σ (yr m f b).1 (yr m f b).2)) := by
  refine Ct.of (by decide) (Nat.le_of_ble_eq_true rfl) (fun X hR => ?_)
  show G (ΛM, mt_Md_goesBy, 3) X (mS σ f b) [some (.ref 0), some (.int (nI m)), none, none] [] 0
  have hn8 := hI.n.2
  have hg := (growN_inv hI (nn f) (Nat.le_refl _)).1
  have hg0 : nn (growN f (nn f)) = nn f := (growN_inv hI (nn f) (Nat.le_refl _)).2
  have hK : G (ΛM, mt_Md_goesBy, 3) X (mS σ (growN f (nn f)) (rstB b (nn f))) [some (.ref 0), some (.int (nI m)), none, none] [] 93 := by
    refine g_aload_n (by decide +kernel : decode prog_10_method_50_code 93 = .ok (.aload_n 0, 1)) rfl ?_
    refine g_callVI [] (by decide +kernel : decode prog_10_method_50_code 94 = .ok (.invokevirtual 189, 3)) lk_Md_189 (m_hiddenOnes σ (growN f (nn f)) (rstB b (nn f)) hg) rfl rfl rfl rfl (Nat.le_of_ble_eq_true rfl) (Nat.le_of_ble_eq_true rfl) (fun r94 s94 h94 => ?_)
    obtain ⟨rfl, rfl⟩ := h94
    refine g_istore_n (L' := [some (.ref 0), some (.int (nI m)), some (.int (nI (msk (growN f (nn f)) (nn (growN f (nn f)))))), none]) (by decide +kernel : decode prog_10_method_50_code 97 = .ok (.istore_n 2, 1)) (Nat.le_of_ble_eq_true rfl) rfl ?_
    refine g_iconst (v := nI 0) (by decide +kernel : decode prog_10_method_50_code 98 = .ok (.iconst 0, 1)) (by decide) ?_
    refine g_istore_n (L' := [some (.ref 0), some (.int (nI m)), some (.int (nI (msk (growN f (nn f)) (nn (growN f (nn f)))))), some (.int (nI 0))]) (by decide +kernel : decode prog_10_method_50_code 99 = .ok (.istore_n 3, 1)) (Nat.le_of_ble_eq_true rfl) rfl ?_
    have hlt : msk (growN f (nn f)) (nn (growN f (nn f))) < 256 := inv_m256 hg
    refine m_year_lp2 hg hm hlt (nn f + 1) 0 (Nat.zero_le _) (by omega) ?_
    have e1 : (yr m f b) = (upd (seekN m (msk (growN f (nn f)) (nn (growN f (nn f)))) (growN f (nn f)) (rstB b (nn f)) (nn (growN f (nn f)))).1 1 ((seekN m (msk (growN f (nn f)) (nn (growN f (nn f)))) (growN f (nn f)) (rstB b (nn f)) (nn (growN f (nn f)))).1 1 + nI 1), (seekN m (msk (growN f (nn f)) (nn (growN f (nn f)))) (growN f (nn f)) (rstB b (nn f)) (nn (growN f (nn f)))).2) := by rw [hg0]; rfl
    rw [e1] at hR
    exact hR
  refine g_iconst (v := nI 0) (by decide +kernel : decode prog_10_method_50_code 0 = .ok (.iconst 0, 1)) (by decide) ?_
  refine g_istore_n (L' := [some (.ref 0), some (.int (nI m)), some (.int (nI 0)), none]) (by decide +kernel : decode prog_10_method_50_code 1 = .ok (.istore_n 2, 1)) (Nat.le_of_ble_eq_true rfl) rfl ?_
  exact m_year_lp1 hI hK (nn f + 1) 0 (Nat.zero_le _) (by omega)
