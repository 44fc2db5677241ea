/-! THE PROGRAM: a park -/
set_option maxRecDepth 20000 in
theorem c_has {σ : Store} {f : Row} (hP : RP σ f) (x : Int32) : Ct ΛP mt_Pk_has 0 [.ref 0, .int x] σ (PB σ (∃ j, j < nn f ∧ x = nI j)) := by
  refine Ct.of (by decide) (Nat.le_of_ble_eq_true rfl) (fun X hR => ?_)
  show G (ΛP, mt_Pk_has, 0) X σ [some (.ref 0), some (.int x)] [] 0
  have hn8 := hP.n8
  refine g_iload_n (by decide +kernel : decode prog_3_method_4_code 0 = .ok (.iload_n 1, 1)) rfl ?_
  refine g_if_lt (tgt := 16) (by decide +kernel : decode prog_3_method_4_code 1 = .ok (.ifCond .lt 15, 3)) (by decide) (fun h1 => ?_) (fun h1 => ?_)
  · refine g_iconst (v := nI 0) (by decide +kernel : decode prog_3_method_4_code 16 = .ok (.iconst 0, 1)) (by decide) ?_
    exact g_zret hR (by decide +kernel : decode prog_3_method_4_code 17 = .ok (.ireturn, 1)) rfl (by decide) ⟨_, rfl, ⟨rfl, Or.inr ⟨rfl, by first | exact fun q => absurd ((i32_lt x (by omega)).mpr q).1 (Int32.not_le.mpr h1) | exact fun q => absurd ((i32_lt x (by omega)).mpr q).2 (Int32.not_lt.mpr h9)⟩⟩⟩
  · refine g_iload_n (by decide +kernel : decode prog_3_method_4_code 4 = .ok (.iload_n 1, 1)) rfl ?_
    refine g_aload_n (by decide +kernel : decode prog_3_method_4_code 5 = .ok (.aload_n 0, 1)) rfl ?_
    refine g_getI (by decide +kernel : decode prog_3_method_4_code 6 = .ok (.getfield 46, 3)) fl_Pk_46.get rfl rfl ?_
    refine g_top (w := nI (nn f)) (hP.n) ?_
    refine g_icmp_ge (tgt := 16) (by decide +kernel : decode prog_3_method_4_code 9 = .ok (.if_icmp .ge 7, 3)) (by decide) (fun h9 => ?_) (fun h9 => ?_)
    · refine g_iconst (v := nI 0) (by decide +kernel : decode prog_3_method_4_code 16 = .ok (.iconst 0, 1)) (by decide) ?_
      exact g_zret hR (by decide +kernel : decode prog_3_method_4_code 17 = .ok (.ireturn, 1)) rfl (by decide) ⟨_, rfl, ⟨rfl, Or.inr ⟨rfl, by first | exact fun q => absurd ((i32_lt x (by omega)).mpr q).1 (Int32.not_le.mpr h1) | exact fun q => absurd ((i32_lt x (by omega)).mpr q).2 (Int32.not_lt.mpr h9)⟩⟩⟩
    · refine g_iconst (v := nI 1) (by decide +kernel : decode prog_3_method_4_code 12 = .ok (.iconst 1, 1)) (by decide) ?_
      refine g_goto (tgt := 17) (by decide +kernel : decode prog_3_method_4_code 13 = .ok (.goto 4, 3)) (by decide) ?_
      exact g_zret hR (by decide +kernel : decode prog_3_method_4_code 17 = .ok (.ireturn, 1)) rfl (by decide) ⟨_, rfl, ⟨rfl, Or.inl ⟨rfl, (i32_lt x (by omega)).mp ⟨Int32.not_lt.mp h1, Int32.not_le.mp h9⟩⟩⟩⟩
theorem ite_ne0 {c : Bool} (h : ¬ (if c = true then 1 else 0 : Nat) = 0) : c = true := by cases c <;> simp_all
theorem ite_eq0 {c : Bool} (h : (if c = true then 1 else 0 : Nat) = 0) : c = false := by cases c <;> simp_all
theorem ite01_lt {c : Bool} : (if c = true then 1 else 0 : Nat) < 2 ^ 31 := by cases c <;> decide
theorem ite10_ne0 {c : Bool} (h : ¬ (if c = true then 0 else 1 : Nat) = 0) : c = false := by cases c <;> simp_all
theorem ite10_eq0 {c : Bool} (h : (if c = true then 0 else 1 : Nat) = 0) : c = true := by cases c <;> simp_all
theorem ite10_lt {c : Bool} : (if c = true then 0 else 1 : Nat) < 2 ^ 31 := by cases c <;> decide
set_option maxRecDepth 20000 in
theorem c_isHidden {σ : Store} {f : Row} (hP : RP σ f) {o : Nat} (ho : o < nn f) : Ct ΛP mt_Pk_isHidden 0 [.ref 0, .int (nI o)] σ (PB σ (f (19 + 6 * o + 4) = nI 1)) := by
  refine Ct.of (by decide) (Nat.le_of_ble_eq_true rfl) (fun X hR => ?_)
  show G (ΛP, mt_Pk_isHidden, 0) X σ [some (.ref 0), some (.int (nI o))] [] 0
  have hn8 := hP.n8
  have hm := inv_m256 hP.i
  refine g_aload_n (by decide +kernel : decode prog_3_method_6_code 0 = .ok (.aload_n 0, 1)) rfl ?_
  refine g_getI (by decide +kernel : decode prog_3_method_6_code 1 = .ok (.getfield 49, 3)) fl_Pk_49.get rfl rfl ?_
  refine g_top (w := nI (msk f (nn f))) (hP.m) ?_
  refine g_iload_n (by decide +kernel : decode prog_3_method_6_code 4 = .ok (.iload_n 1, 1)) rfl ?_
  refine g_ishr (by decide +kernel : decode prog_3_method_6_code 5 = .ok (.ishr, 1)) ?_
  refine g_iconst (v := nI 1) (by decide +kernel : decode prog_3_method_6_code 6 = .ok (.iconst 1, 1)) (by decide) ?_
  refine g_iand (by decide +kernel : decode prog_3_method_6_code 7 = .ok (.iand, 1)) ?_
  refine g_top (w := nI (if (msk f (nn f)).testBit o then 1 else 0)) (nI_bit (by omega) (by omega)) ?_
  refine g_if_eqN (tgt := 15) (by decide +kernel : decode prog_3_method_6_code 8 = .ok (.ifCond .eq 7, 3)) (by decide) (by first | exact ite01_lt | exact ite10_lt | omega) (fun h8 => ?_) (fun h8 => ?_)
  · refine g_iconst (v := nI 0) (by decide +kernel : decode prog_3_method_6_code 15 = .ok (.iconst 0, 1)) (by decide) ?_
    exact g_zret hR (by decide +kernel : decode prog_3_method_6_code 16 = .ok (.ireturn, 1)) rfl (by decide) ⟨_, rfl, ⟨rfl, Or.inr ⟨rfl, fun z => by have h9 := ite_eq0 h8; rw [(msk_tb hP.i ho).mpr z] at h9; cases h9⟩⟩⟩
  · refine g_iconst (v := nI 1) (by decide +kernel : decode prog_3_method_6_code 11 = .ok (.iconst 1, 1)) (by decide) ?_
    refine g_goto (tgt := 16) (by decide +kernel : decode prog_3_method_6_code 12 = .ok (.goto 4, 3)) (by decide) ?_
    exact g_zret hR (by decide +kernel : decode prog_3_method_6_code 16 = .ok (.ireturn, 1)) rfl (by decide) ⟨_, rfl, ⟨rfl, Or.inl ⟨rfl, (msk_tb hP.i ho).mp (ite_ne0 h8)⟩⟩⟩
set_option maxRecDepth 20000 in
theorem c_hide1 {σ : Store} {f : Row} (hP : RP σ f) {o : Nat} (ho : o < nn f) : Ct ΛP mt_Pk_hide 0 [.ref 0, .int (nI o), .int (nI 1)] σ (PV (fun σ' => RP σ' (upd f (19 + 6 * o + 4) (nI 1)) ∧ σ' 8 = σ 8)) := by
  refine Ct.of (by decide) (Nat.le_of_ble_eq_true rfl) (fun X hR => ?_)
  show G (ΛP, mt_Pk_hide, 0) X σ [some (.ref 0), some (.int (nI o)), some (.int (nI 1))] [] 0
  have hn8 := hP.n8
  refine g_iload_n (by decide +kernel : decode prog_3_method_7_code 0 = .ok (.iload_n 2, 1)) rfl ?_
  refine g_if_eqN (tgt := 19) (by decide +kernel : decode prog_3_method_7_code 1 = .ok (.ifCond .eq 18, 3)) (by decide) (by decide) (fun h => False.elim (by revert h; decide)) (fun _ => ?_)
  refine g_aload_n (by decide +kernel : decode prog_3_method_7_code 4 = .ok (.aload_n 0, 1)) rfl ?_
  refine g_dup (by decide +kernel : decode prog_3_method_7_code 5 = .ok (.dup, 1)) rfl ?_
  refine g_getI (by decide +kernel : decode prog_3_method_7_code 6 = .ok (.getfield 49, 3)) fl_Pk_49.get rfl rfl ?_
  refine g_top (w := nI (msk f (nn f))) (hP.m) ?_
  refine g_iconst (v := nI 1) (by decide +kernel : decode prog_3_method_7_code 9 = .ok (.iconst 1, 1)) (by decide) ?_
  refine g_iload_n (by decide +kernel : decode prog_3_method_7_code 10 = .ok (.iload_n 1, 1)) rfl ?_
  refine g_ishl (by decide +kernel : decode prog_3_method_7_code 11 = .ok (.ishl, 1)) ?_
  refine g_ior (by decide +kernel : decode prog_3_method_7_code 12 = .ok (.ior, 1)) ?_
  refine g_putI (by decide +kernel : decode prog_3_method_7_code 13 = .ok (.putfield 49, 3)) fl_Pk_49 rfl rfl ?_
  have p16 := hP.u4 (o := o) (k := 1) (by decide) (M := (nI (msk f (nn f))) ||| ((nI 1) <<< ((nI o) &&& 31))) (msk_on hP.i ho)
  refine g_goto (tgt := 33) (by decide +kernel : decode prog_3_method_7_code 16 = .ok (.goto 17, 3)) (by decide) ?_
  exact g_vret hR (by decide +kernel : decode prog_3_method_7_code 33 = .ok (.return_, 1)) rfl ⟨rfl, ⟨p16, s_up_n _ _ _ (by decide)⟩⟩
set_option maxRecDepth 20000 in
theorem c_hide0 {σ : Store} {f : Row} (hP : RP σ f) {o : Nat} (ho : o < nn f) : Ct ΛP mt_Pk_hide 0 [.ref 0, .int (nI o), .int (nI 0)] σ (PV (fun σ' => RP σ' (upd f (19 + 6 * o + 4) (nI 0)) ∧ σ' 8 = σ 8)) := by
  refine Ct.of (by decide) (Nat.le_of_ble_eq_true rfl) (fun X hR => ?_)
  show G (ΛP, mt_Pk_hide, 0) X σ [some (.ref 0), some (.int (nI o)), some (.int (nI 0))] [] 0
  have hn8 := hP.n8
  refine g_iload_n (by decide +kernel : decode prog_3_method_7_code 0 = .ok (.iload_n 2, 1)) rfl ?_
  refine g_if_eqN (tgt := 19) (by decide +kernel : decode prog_3_method_7_code 1 = .ok (.ifCond .eq 18, 3)) (by decide) (by decide) (fun _ => ?_) (fun h => False.elim (by revert h; decide))
  refine g_aload_n (by decide +kernel : decode prog_3_method_7_code 19 = .ok (.aload_n 0, 1)) rfl ?_
  refine g_dup (by decide +kernel : decode prog_3_method_7_code 20 = .ok (.dup, 1)) rfl ?_
  refine g_getI (by decide +kernel : decode prog_3_method_7_code 21 = .ok (.getfield 49, 3)) fl_Pk_49.get rfl rfl ?_
  refine g_top (w := nI (msk f (nn f))) (hP.m) ?_
  refine g_iconst (v := nI 1) (by decide +kernel : decode prog_3_method_7_code 24 = .ok (.iconst 1, 1)) (by decide) ?_
  refine g_iload_n (by decide +kernel : decode prog_3_method_7_code 25 = .ok (.iload_n 1, 1)) rfl ?_
  refine g_ishl (by decide +kernel : decode prog_3_method_7_code 26 = .ok (.ishl, 1)) ?_
  refine g_iconst (v := (-1)) (by decide +kernel : decode prog_3_method_7_code 27 = .ok (.iconst (-1), 1)) (by decide) ?_
  refine g_ixor (by decide +kernel : decode prog_3_method_7_code 28 = .ok (.ixor, 1)) ?_
  refine g_iand (by decide +kernel : decode prog_3_method_7_code 29 = .ok (.iand, 1)) ?_
  refine g_putI (by decide +kernel : decode prog_3_method_7_code 30 = .ok (.putfield 49, 3)) fl_Pk_49 rfl rfl ?_
  have p33 := hP.u4 (o := o) (k := 0) (by decide) (M := (nI (msk f (nn f))) &&& (((nI 1) <<< ((nI o) &&& 31)) ^^^ (-1))) (msk_off hP.i ho)
  exact g_vret hR (by decide +kernel : decode prog_3_method_7_code 33 = .ok (.return_, 1)) rfl ⟨rfl, ⟨p33, s_up_n _ _ _ (by decide)⟩⟩
set_option maxRecDepth 20000 in
theorem c_hiddenOnes {σ : Store} {f : Row} (hP : RP σ f)  : Ct ΛP mt_Pk_hiddenOnes 1 [.ref 0] σ (PF (nI (popc (msk f (nn f)))) σ) := by
  refine Ct.of (by decide) (Nat.le_of_ble_eq_true rfl) (fun X hR => ?_)
  show G (ΛP, mt_Pk_hiddenOnes, 1) X σ [some (.ref 0)] [] 0
  have hn8 := hP.n8
  have hm := inv_m256 hP.i
  refine g_aload_n (by decide +kernel : decode prog_3_method_8_code 0 = .ok (.aload_n 0, 1)) rfl ?_
  refine g_getI (by decide +kernel : decode prog_3_method_8_code 1 = .ok (.getfield 49, 3)) fl_Pk_49.get rfl rfl ?_
  refine g_top (w := nI (msk f (nn f))) (hP.m) ?_
  refine g_callSI [.int (nI (msk f (nn f)))] (by decide +kernel : decode prog_3_method_8_code 4 = .ok (.invokestatic 65, 3)) lk_Pk_65 (m_bitCount ΛP _ (by omega)) rfl rfl (Nat.le_of_ble_eq_true rfl) (Nat.le_of_ble_eq_true rfl) (fun r4 s4 h4 => ?_)
  obtain ⟨rfl, rfl⟩ := h4
  exact g_iret hR (by decide +kernel : decode prog_3_method_8_code 7 = .ok (.ireturn, 1)) rfl ⟨_, rfl, ⟨rfl, rfl⟩⟩
set_option maxRecDepth 20000 in
theorem c_at_lp {X : CX} {σ : Store} {f : Row} (hP : RP σ f) {p : Nat} (hp : p < 12) : ∀ (b9 k : Nat), k ≤ nn f → nn f - k < b9 → Rt (ΛP, mt_Pk_peopleAt, 0) (PF (nI (atm f p (nn f))) σ) X → G (ΛP, mt_Pk_peopleAt, 0) X σ [some (.ref 0), some (.int (nI p)), some (.int (nI (atm f p k))), some (.int (nI k))] [] 4 := by
  have hn8 := hP.n8
  intro b9
  induction b9 with
  | zero => intro k hk hb hR; omega
  | succ b9 ih =>
  intro k hk hb hR
  have e3 : k < nn f → tn (f (19 + 6 * k + 3)) ≤ 11 := fun z => (hP.i.p z 3).2
  refine g_iload_n (by decide +kernel : decode prog_3_method_9_code 4 = .ok (.iload_n 3, 1)) rfl ?_
  refine g_aload_n (by decide +kernel : decode prog_3_method_9_code 5 = .ok (.aload_n 0, 1)) rfl ?_
  refine g_getI (by decide +kernel : decode prog_3_method_9_code 6 = .ok (.getfield 46, 3)) fl_Pk_46.get rfl rfl ?_
  refine g_top (w := nI (nn f)) (hP.n) ?_
  refine g_icmp_geN (tgt := 34) (by decide +kernel : decode prog_3_method_9_code 9 = .ok (.if_icmp .ge 25, 3)) (by decide) (by omega) (by omega) (fun h9 => ?_) (fun h9 => ?_)
  · refine g_iload_n (by decide +kernel : decode prog_3_method_9_code 34 = .ok (.iload_n 2, 1)) rfl ?_
    exact g_iret hR (by decide +kernel : decode prog_3_method_9_code 35 = .ok (.ireturn, 1)) rfl ⟨_, rfl, ⟨by rw [show k = nn f by omega], rfl⟩⟩
  · refine g_aload_n (by decide +kernel : decode prog_3_method_9_code 12 = .ok (.aload_n 0, 1)) rfl ?_
    refine g_getR (by decide +kernel : decode prog_3_method_9_code 13 = .ok (.getfield 27, 3)) fl_Pk_27 rfl rfl ?_
    refine g_iload_n (by decide +kernel : decode prog_3_method_9_code 16 = .ok (.iload_n 3, 1)) rfl ?_
    refine g_iaload (a := k) (by decide +kernel : decode prog_3_method_9_code 17 = .ok (.iaload, 1)) rfl rfl (by omega) (by decide) ?_
    refine g_top (w := nI (tn (f (19 + 6 * k + 3)))) ((hP.p3 (by omega)).trans (hP.i.p (o := k) (by omega) 3).1) ?_
    refine g_iload_n (by decide +kernel : decode prog_3_method_9_code 18 = .ok (.iload_n 1, 1)) rfl ?_
    refine g_icmp_neN (tgt := 28) (by decide +kernel : decode prog_3_method_9_code 19 = .ok (.if_icmp .ne 9, 3)) (by decide) (by omega) (by omega) (fun h19 => ?_) (fun h19 => ?_)
    · refine g_iincN (n := 1) (L' := [some (.ref 0), some (.int (nI p)), some (.int (nI (atm f p k))), some (.int (nI (k + 1)))]) (by decide +kernel : decode prog_3_method_9_code 28 = .ok (.iinc 3 1, 3)) rfl (by decide) (Nat.le_of_ble_eq_true rfl) rfl ?_
      refine g_goto (tgt := 4) (by decide +kernel : decode prog_3_method_9_code 31 = .ok (.goto (-27), 3)) (by decide) ?_
      have e9 : atm f p (k + 1) = atm f p k := by show atm f p k + _ = _; rw [if_neg h19, Nat.zero_mul, Nat.add_zero]
      rw [← e9]
      exact ih (k + 1) (by omega) (by omega) hR
    · refine g_iload_n (by decide +kernel : decode prog_3_method_9_code 22 = .ok (.iload_n 2, 1)) rfl ?_
      refine g_iconst (v := nI 1) (by decide +kernel : decode prog_3_method_9_code 23 = .ok (.iconst 1, 1)) (by decide) ?_
      refine g_iload_n (by decide +kernel : decode prog_3_method_9_code 24 = .ok (.iload_n 3, 1)) rfl ?_
      refine g_ishl (by decide +kernel : decode prog_3_method_9_code 25 = .ok (.ishl, 1)) ?_
      refine g_ior (by decide +kernel : decode prog_3_method_9_code 26 = .ok (.ior, 1)) ?_
      refine g_top (w := nI (atm f p (k + 1))) (by rw [nI_1shl (by omega), nI_or, or_add (atm_lt f p k) (Nat.le_refl 1)]; show _ = nI (atm f p k + (if tn (f (19 + 6 * k + 3)) = p then 1 else 0) * 2 ^ k); rw [if_pos h19]) ?_
      refine g_istore_n (L' := [some (.ref 0), some (.int (nI p)), some (.int (nI (atm f p (k + 1)))), some (.int (nI k))]) (by decide +kernel : decode prog_3_method_9_code 27 = .ok (.istore_n 2, 1)) (Nat.le_of_ble_eq_true rfl) rfl ?_
      refine g_iincN (n := 1) (L' := [some (.ref 0), some (.int (nI p)), some (.int (nI (atm f p (k + 1)))), some (.int (nI (k + 1)))]) (by decide +kernel : decode prog_3_method_9_code 28 = .ok (.iinc 3 1, 3)) rfl (by decide) (Nat.le_of_ble_eq_true rfl) rfl ?_
      refine g_goto (tgt := 4) (by decide +kernel : decode prog_3_method_9_code 31 = .ok (.goto (-27), 3)) (by decide) ?_
      exact ih (k + 1) (by omega) (by omega) hR
set_option maxRecDepth 20000 in
theorem c_peopleAt {σ : Store} {f : Row} (hP : RP σ f) {p : Nat} (hp : p < 12) : Ct ΛP mt_Pk_peopleAt 0 [.ref 0, .int (nI p)] σ (PF (nI (atm f p (nn f))) σ) := by
  refine Ct.of (by decide) (Nat.le_of_ble_eq_true rfl) (fun X hR => ?_)
  show G (ΛP, mt_Pk_peopleAt, 0) X σ [some (.ref 0), some (.int (nI p)), none, none] [] 0
  have hn8 := hP.n8
  refine g_iconst (v := nI 0) (by decide +kernel : decode prog_3_method_9_code 0 = .ok (.iconst 0, 1)) (by decide) ?_
  refine g_istore_n (L' := [some (.ref 0), some (.int (nI p)), some (.int (nI 0)), none]) (by decide +kernel : decode prog_3_method_9_code 1 = .ok (.istore_n 2, 1)) (Nat.le_of_ble_eq_true rfl) rfl ?_
  refine g_iconst (v := nI 0) (by decide +kernel : decode prog_3_method_9_code 2 = .ok (.iconst 0, 1)) (by decide) ?_
  refine g_istore_n (L' := [some (.ref 0), some (.int (nI p)), some (.int (nI 0)), some (.int (nI 0))]) (by decide +kernel : decode prog_3_method_9_code 3 = .ok (.istore_n 3, 1)) (Nat.le_of_ble_eq_true rfl) rfl ?_
  exact c_at_lp hP hp (nn f + 1) 0 (Nat.zero_le _) (by omega) hR
theorem hpl_y {f : Row} {k : Nat} (h : f (19 + 6 * k + 4) = nI 1) : hpl f (k + 1) = hpl f k ||| 1 * 2 ^ tn (f (19 + 6 * k + 3)) := by
  show hpl f k ||| tn (f (19 + 6 * k + 4)) * _ = _
  rw [h]; rfl
theorem hpl_n {f : Row} (hI : Inv f) {k : Nat} (hk : k < nn f) (h : ¬ f (19 + 6 * k + 4) = nI 1) : hpl f (k + 1) = hpl f k := by
  have hp := hI.p hk 4
  have h1 : tn (f (19 + 6 * k + 4)) ≤ 1 := hp.2
  have h0 : tn (f (19 + 6 * k + 4)) = 0 := by
    rcases (show tn (f (19 + 6 * k + 4)) = 0 ∨ tn (f (19 + 6 * k + 4)) = 1 by omega) with e | e
    · exact e
    · exact absurd (by rw [hp.1, e]) h
  show hpl f k ||| tn (f (19 + 6 * k + 4)) * _ = _
  rw [h0, Nat.zero_mul, Nat.or_zero]
set_option maxRecDepth 20000 in
theorem c_hpl_lp {X : CX} {σ : Store} {f : Row} (hP : RP σ f) : ∀ (b9 k : Nat), k ≤ nn f → nn f - k < b9 → Rt (ΛP, mt_Pk_hidingPlaces, 1) (PF (nI (hpl f (nn f))) σ) X → G (ΛP, mt_Pk_hidingPlaces, 1) X σ [some (.ref 0), some (.int (nI (hpl f k))), some (.int (nI k))] [] 4 := by
  have hn8 := hP.n8
  intro b9
  induction b9 with
  | zero => intro k hk hb hR; omega
  | succ b9 ih =>
  intro k hk hb hR
  have e3 : k < nn f → tn (f (19 + 6 * k + 3)) ≤ 11 := fun z => (hP.i.p z 3).2
  refine g_iload_n (by decide +kernel : decode prog_3_method_10_code 4 = .ok (.iload_n 2, 1)) rfl ?_
  refine g_aload_n (by decide +kernel : decode prog_3_method_10_code 5 = .ok (.aload_n 0, 1)) rfl ?_
  refine g_getI (by decide +kernel : decode prog_3_method_10_code 6 = .ok (.getfield 46, 3)) fl_Pk_46.get rfl rfl ?_
  refine g_top (w := nI (nn f)) (hP.n) ?_
  refine g_icmp_geN (tgt := 37) (by decide +kernel : decode prog_3_method_10_code 9 = .ok (.if_icmp .ge 28, 3)) (by decide) (by omega) (by omega) (fun h9 => ?_) (fun h9 => ?_)
  · refine g_iload_n (by decide +kernel : decode prog_3_method_10_code 37 = .ok (.iload_n 1, 1)) rfl ?_
    exact g_iret hR (by decide +kernel : decode prog_3_method_10_code 38 = .ok (.ireturn, 1)) rfl ⟨_, rfl, ⟨by rw [show k = nn f by omega], rfl⟩⟩
  · refine g_aload_n (by decide +kernel : decode prog_3_method_10_code 12 = .ok (.aload_n 0, 1)) rfl ?_
    refine g_iload_n (by decide +kernel : decode prog_3_method_10_code 13 = .ok (.iload_n 2, 1)) rfl ?_
    refine g_callVI [.int (nI k)] (by decide +kernel : decode prog_3_method_10_code 14 = .ok (.invokevirtual 71, 3)) lk_Pk_71 (c_isHidden hP (o := k) (by omega)) rfl rfl rfl rfl (Nat.le_of_ble_eq_true rfl) (Nat.le_of_ble_eq_true rfl) (fun r14 s14 h14 => ?_)
    rcases h14 with ⟨rfl, ⟨rfl, q14⟩ | ⟨rfl, q14⟩⟩
    · refine g_if_eqN (tgt := 31) (by decide +kernel : decode prog_3_method_10_code 17 = .ok (.ifCond .eq 14, 3)) (by decide) (by decide) (fun h => False.elim (by revert h; decide)) (fun _ => ?_)
      refine g_iload_n (by decide +kernel : decode prog_3_method_10_code 20 = .ok (.iload_n 1, 1)) rfl ?_
      refine g_iconst (v := nI 1) (by decide +kernel : decode prog_3_method_10_code 21 = .ok (.iconst 1, 1)) (by decide) ?_
      refine g_aload_n (by decide +kernel : decode prog_3_method_10_code 22 = .ok (.aload_n 0, 1)) rfl ?_
      refine g_getR (by decide +kernel : decode prog_3_method_10_code 23 = .ok (.getfield 27, 3)) fl_Pk_27 rfl rfl ?_
      refine g_iload_n (by decide +kernel : decode prog_3_method_10_code 26 = .ok (.iload_n 2, 1)) rfl ?_
      refine g_iaload (a := k) (by decide +kernel : decode prog_3_method_10_code 27 = .ok (.iaload, 1)) rfl rfl (by omega) (by decide) ?_
      refine g_top (w := nI (tn (f (19 + 6 * k + 3)))) ((hP.p3 (by omega)).trans (hP.i.p (o := k) (by omega) 3).1) ?_
      refine g_ishl (by decide +kernel : decode prog_3_method_10_code 28 = .ok (.ishl, 1)) ?_
      refine g_ior (by decide +kernel : decode prog_3_method_10_code 29 = .ok (.ior, 1)) ?_
      refine g_top (w := nI (hpl f (k + 1))) (by rw [nI_1shl (by omega), nI_or, ← hpl_y q14]) ?_
      refine g_istore_n (L' := [some (.ref 0), some (.int (nI (hpl f (k + 1)))), some (.int (nI k))]) (by decide +kernel : decode prog_3_method_10_code 30 = .ok (.istore_n 1, 1)) (Nat.le_of_ble_eq_true rfl) rfl ?_
      refine g_iincN (n := 1) (L' := [some (.ref 0), some (.int (nI (hpl f (k + 1)))), some (.int (nI (k + 1)))]) (by decide +kernel : decode prog_3_method_10_code 31 = .ok (.iinc 2 1, 3)) rfl (by decide) (Nat.le_of_ble_eq_true rfl) rfl ?_
      refine g_goto (tgt := 4) (by decide +kernel : decode prog_3_method_10_code 34 = .ok (.goto (-30), 3)) (by decide) ?_
      exact ih (k + 1) (by omega) (by omega) hR
    · refine g_if_eqN (tgt := 31) (by decide +kernel : decode prog_3_method_10_code 17 = .ok (.ifCond .eq 14, 3)) (by decide) (by decide) (fun _ => ?_) (fun h => False.elim (by revert h; decide))
      refine g_iincN (n := 1) (L' := [some (.ref 0), some (.int (nI (hpl f k))), some (.int (nI (k + 1)))]) (by decide +kernel : decode prog_3_method_10_code 31 = .ok (.iinc 2 1, 3)) rfl (by decide) (Nat.le_of_ble_eq_true rfl) rfl ?_
      refine g_goto (tgt := 4) (by decide +kernel : decode prog_3_method_10_code 34 = .ok (.goto (-30), 3)) (by decide) ?_
      rw [← hpl_n hP.i (show k < nn f by omega) q14]
      exact ih (k + 1) (by omega) (by omega) hR
set_option maxRecDepth 20000 in
theorem c_hidingPlaces {σ : Store} {f : Row} (hP : RP σ f)  : Ct ΛP mt_Pk_hidingPlaces 1 [.ref 0] σ (PF (nI (hpl f (nn f))) σ) := by
  refine Ct.of (by decide) (Nat.le_of_ble_eq_true rfl) (fun X hR => ?_)
  show G (ΛP, mt_Pk_hidingPlaces, 1) X σ [some (.ref 0), none, none] [] 0
  have hn8 := hP.n8
  refine g_iconst (v := nI 0) (by decide +kernel : decode prog_3_method_10_code 0 = .ok (.iconst 0, 1)) (by decide) ?_
  refine g_istore_n (L' := [some (.ref 0), some (.int (nI 0)), none]) (by decide +kernel : decode prog_3_method_10_code 1 = .ok (.istore_n 1, 1)) (Nat.le_of_ble_eq_true rfl) rfl ?_
  refine g_iconst (v := nI 0) (by decide +kernel : decode prog_3_method_10_code 2 = .ok (.iconst 0, 1)) (by decide) ?_
  refine g_istore_n (L' := [some (.ref 0), some (.int (nI 0)), some (.int (nI 0))]) (by decide +kernel : decode prog_3_method_10_code 3 = .ok (.istore_n 2, 1)) (Nat.le_of_ble_eq_true rfl) rfl ?_
  exact c_hpl_lp hP (nn f + 1) 0 (Nat.zero_le _) (by omega) hR
set_option maxRecDepth 20000 in
theorem c_crw_lp {X : CX} {σ : Store} {f : Row} (hP : RP σ f) : ∀ (b9 k : Nat), k ≤ nn f → nn f - k < b9 → Rt (ΛP, mt_Pk_peopleInCompany, 1) (PF (nI (crw f (nn f))) σ) X → G (ΛP, mt_Pk_peopleInCompany, 1) X σ [some (.ref 0), some (.int (nI (crw f k))), some (.int (nI k))] [] 4 := by
  have hn8 := hP.n8
  have hpw : 2 ^ nn f ≤ 2 ^ 8 := Nat.pow_le_pow_right (by decide) hn8
  intro b9
  induction b9 with
  | zero => intro k hk hb hR; omega
  | succ b9 ih =>
  intro k hk hb hR
  have e3 : k < nn f → tn (f (19 + 6 * k + 3)) ≤ 11 := fun z => (hP.i.p z 3).2
  have hpc := popc_le (atm f (tn (f (19 + 6 * k + 3))) (nn f))
  refine g_iload_n (by decide +kernel : decode prog_3_method_11_code 4 = .ok (.iload_n 2, 1)) rfl ?_
  refine g_aload_n (by decide +kernel : decode prog_3_method_11_code 5 = .ok (.aload_n 0, 1)) rfl ?_
  refine g_getI (by decide +kernel : decode prog_3_method_11_code 6 = .ok (.getfield 46, 3)) fl_Pk_46.get rfl rfl ?_
  refine g_top (w := nI (nn f)) (hP.n) ?_
  refine g_icmp_geN (tgt := 38) (by decide +kernel : decode prog_3_method_11_code 9 = .ok (.if_icmp .ge 29, 3)) (by decide) (by omega) (by omega) (fun h9 => ?_) (fun h9 => ?_)
  · refine g_iload_n (by decide +kernel : decode prog_3_method_11_code 38 = .ok (.iload_n 1, 1)) rfl ?_
    exact g_iret hR (by decide +kernel : decode prog_3_method_11_code 39 = .ok (.ireturn, 1)) rfl ⟨_, rfl, ⟨by rw [show k = nn f by omega], rfl⟩⟩
  · refine g_aload_n (by decide +kernel : decode prog_3_method_11_code 12 = .ok (.aload_n 0, 1)) rfl ?_
    refine g_aload_n (by decide +kernel : decode prog_3_method_11_code 13 = .ok (.aload_n 0, 1)) rfl ?_
    refine g_getR (by decide +kernel : decode prog_3_method_11_code 14 = .ok (.getfield 27, 3)) fl_Pk_27 rfl rfl ?_
    refine g_iload_n (by decide +kernel : decode prog_3_method_11_code 17 = .ok (.iload_n 2, 1)) rfl ?_
    refine g_iaload (a := k) (by decide +kernel : decode prog_3_method_11_code 18 = .ok (.iaload, 1)) rfl rfl (by omega) (by decide) ?_
    refine g_top (w := nI (tn (f (19 + 6 * k + 3)))) ((hP.p3 (by omega)).trans (hP.i.p (o := k) (by omega) 3).1) ?_
    refine g_callVI [.int (nI (tn (f (19 + 6 * k + 3))))] (by decide +kernel : decode prog_3_method_11_code 19 = .ok (.invokevirtual 75, 3)) lk_Pk_75 (c_peopleAt hP (p := tn (f (19 + 6 * k + 3))) (by omega)) rfl rfl rfl rfl (Nat.le_of_ble_eq_true rfl) (Nat.le_of_ble_eq_true rfl) (fun r19 s19 h19 => ?_)
    obtain ⟨rfl, rfl⟩ := h19
    refine g_callSI [.int (nI (atm f (tn (f (19 + 6 * k + 3))) (nn f)))] (by decide +kernel : decode prog_3_method_11_code 22 = .ok (.invokestatic 65, 3)) lk_Pk_65 (m_bitCount ΛP _ (Nat.lt_of_lt_of_le (atm_lt f _ _) (Nat.le_trans hpw (by decide)))) rfl rfl (Nat.le_of_ble_eq_true rfl) (Nat.le_of_ble_eq_true rfl) (fun r22 s22 h22 => ?_)
    obtain ⟨rfl, rfl⟩ := h22
    refine g_iconst (v := nI 1) (by decide +kernel : decode prog_3_method_11_code 25 = .ok (.iconst 1, 1)) (by decide) ?_
    refine g_icmp_leN (tgt := 32) (by decide +kernel : decode prog_3_method_11_code 26 = .ok (.if_icmp .le 6, 3)) (by decide) (by omega) (by decide) (fun h26 => ?_) (fun h26 => ?_)
    · refine g_iincN (n := 1) (L' := [some (.ref 0), some (.int (nI (crw f k))), some (.int (nI (k + 1)))]) (by decide +kernel : decode prog_3_method_11_code 32 = .ok (.iinc 2 1, 3)) rfl (by decide) (Nat.le_of_ble_eq_true rfl) rfl ?_
      refine g_goto (tgt := 4) (by decide +kernel : decode prog_3_method_11_code 35 = .ok (.goto (-31), 3)) (by decide) ?_
      have e9 : crw f (k + 1) = crw f k := by show crw f k + _ = _; rw [if_neg (by omega), Nat.add_zero]
      rw [← e9]
      exact ih (k + 1) (by omega) (by omega) hR
    · refine g_iincN (n := 1) (L' := [some (.ref 0), some (.int (nI (crw f k + 1))), some (.int (nI k))]) (by decide +kernel : decode prog_3_method_11_code 29 = .ok (.iinc 1 1, 3)) rfl (by decide) (Nat.le_of_ble_eq_true rfl) rfl ?_
      refine g_iincN (n := 1) (L' := [some (.ref 0), some (.int (nI (crw f k + 1))), some (.int (nI (k + 1)))]) (by decide +kernel : decode prog_3_method_11_code 32 = .ok (.iinc 2 1, 3)) rfl (by decide) (Nat.le_of_ble_eq_true rfl) rfl ?_
      refine g_goto (tgt := 4) (by decide +kernel : decode prog_3_method_11_code 35 = .ok (.goto (-31), 3)) (by decide) ?_
      have e9 : crw f (k + 1) = crw f k + 1 := by show crw f k + _ = _; rw [if_pos (by omega)]
      rw [← e9]
      exact ih (k + 1) (by omega) (by omega) hR
set_option maxRecDepth 20000 in
theorem c_peopleInCompany {σ : Store} {f : Row} (hP : RP σ f)  : Ct ΛP mt_Pk_peopleInCompany 1 [.ref 0] σ (PF (nI (crw f (nn f))) σ) := by
  refine Ct.of (by decide) (Nat.le_of_ble_eq_true rfl) (fun X hR => ?_)
  show G (ΛP, mt_Pk_peopleInCompany, 1) X σ [some (.ref 0), none, none] [] 0
  have hn8 := hP.n8
  refine g_iconst (v := nI 0) (by decide +kernel : decode prog_3_method_11_code 0 = .ok (.iconst 0, 1)) (by decide) ?_
  refine g_istore_n (L' := [some (.ref 0), some (.int (nI 0)), none]) (by decide +kernel : decode prog_3_method_11_code 1 = .ok (.istore_n 1, 1)) (Nat.le_of_ble_eq_true rfl) rfl ?_
  refine g_iconst (v := nI 0) (by decide +kernel : decode prog_3_method_11_code 2 = .ok (.iconst 0, 1)) (by decide) ?_
  refine g_istore_n (L' := [some (.ref 0), some (.int (nI 0)), some (.int (nI 0))]) (by decide +kernel : decode prog_3_method_11_code 3 = .ok (.istore_n 2, 1)) (Nat.le_of_ble_eq_true rfl) rfl ?_
  exact c_crw_lp hP (nn f + 1) 0 (Nat.zero_le _) (by omega) hR
set_option maxRecDepth 20000 in
theorem c_hides {σ : Store} {f : Row} (hP : RP σ f) {o : Nat} (ho : o < nn f) : Ct ΛP mt_Pk_hides 0 [.ref 0, .int (nI o)] σ (PF (hidesF f o) σ) := by
  refine Ct.of (by decide) (Nat.le_of_ble_eq_true rfl) (fun X hR => ?_)
  show G (ΛP, mt_Pk_hides, 0) X σ [some (.ref 0), some (.int (nI o)), none] [] 0
  have hn8 := hP.n8
  obtain ⟨k, hk, ek⟩ := hP.i.2.1 o ho 0 (by decide)
  have hk6 : k ≤ 5 := hk
  have h3 : tn (f (19 + 6 * o + 3)) ≤ 11 := (hP.i.p ho 3).2
  refine g_aload_n (by decide +kernel : decode prog_3_method_12_code 0 = .ok (.aload_n 0, 1)) rfl ?_
  refine g_getR (by decide +kernel : decode prog_3_method_12_code 1 = .ok (.getfield 15, 3)) fl_Pk_15 rfl rfl ?_
  refine g_aload_n (by decide +kernel : decode prog_3_method_12_code 4 = .ok (.aload_n 0, 1)) rfl ?_
  refine g_getR (by decide +kernel : decode prog_3_method_12_code 5 = .ok (.getfield 27, 3)) fl_Pk_27 rfl rfl ?_
  refine g_iload_n (by decide +kernel : decode prog_3_method_12_code 8 = .ok (.iload_n 1, 1)) rfl ?_
  refine g_iaload (a := o) (by decide +kernel : decode prog_3_method_12_code 9 = .ok (.iaload, 1)) rfl rfl (by omega) (by decide) ?_
  refine g_top (w := nI (tn (f (19 + 6 * o + 3)))) ((hP.p3 ho).trans (hP.i.p ho 3).1) ?_
  refine g_iaload (a := tn (f (19 + 6 * o + 3))) (by decide +kernel : decode prog_3_method_12_code 10 = .ok (.iaload, 1)) rfl rfl (by omega) (by decide) ?_
  refine g_top (w := f (7 + tn (f (19 + 6 * o + 3)))) (hP.c (by omega)) ?_
  refine g_aload_n (by decide +kernel : decode prog_3_method_12_code 11 = .ok (.aload_n 0, 1)) rfl ?_
  refine g_getR (by decide +kernel : decode prog_3_method_12_code 12 = .ok (.getfield 24, 3)) fl_Pk_24 rfl rfl ?_
  refine g_iload_n (by decide +kernel : decode prog_3_method_12_code 15 = .ok (.iload_n 1, 1)) rfl ?_
  refine g_iaload (a := o) (by decide +kernel : decode prog_3_method_12_code 16 = .ok (.iaload, 1)) rfl rfl (by omega) (by decide) ?_
  refine g_top (w := f (19 + 6 * o + 2)) (hP.p2 (by omega)) ?_
  refine g_iadd (by decide +kernel : decode prog_3_method_12_code 17 = .ok (.iadd, 1)) ?_
  refine g_istore_n (L' := [some (.ref 0), some (.int (nI o)), some (.int ((f (7 + tn (f (19 + 6 * o + 3)))) + (f (19 + 6 * o + 2))))]) (by decide +kernel : decode prog_3_method_12_code 18 = .ok (.istore_n 2, 1)) (Nat.le_of_ble_eq_true rfl) rfl ?_
  refine g_aload_n (by decide +kernel : decode prog_3_method_12_code 19 = .ok (.aload_n 0, 1)) rfl ?_
  refine g_getR (by decide +kernel : decode prog_3_method_12_code 20 = .ok (.getfield 18, 3)) fl_Pk_18 rfl rfl ?_
  refine g_iload_n (by decide +kernel : decode prog_3_method_12_code 23 = .ok (.iload_n 1, 1)) rfl ?_
  refine g_iaload (a := o) (by decide +kernel : decode prog_3_method_12_code 24 = .ok (.iaload, 1)) rfl rfl (by omega) (by decide) ?_
  refine g_top (w := nI k) ((hP.p0 ho).trans ek) ?_
  rcases (show k = 0 ∨ k = 1 ∨ k = 2 ∨ k = 3 ∨ k = 4 ∨ k = 5 by omega) with rfl | rfl | rfl | rfl | rfl | rfl
  · refine g_tableOut (x := nI 0) (tgt := 97) (by decide +kernel : decode prog_3_method_12_code 25 = .ok (.tableswitch 72 1 5 #[35, 45, 39, 49, 63], 35)) (by decide) (by decide) ?_
    refine g_iload_n (by decide +kernel : decode prog_3_method_12_code 97 = .ok (.iload_n 2, 1)) rfl ?_
    exact g_iret hR (by decide +kernel : decode prog_3_method_12_code 98 = .ok (.ireturn, 1)) rfl ⟨_, rfl, ⟨by simp only [hidesF, ek, tn_nI (show 0 < 2 ^ 31 by decide)], rfl⟩⟩
  · refine g_tableIn (x := nI 1) (off := 35) (tgt := 60) (by decide +kernel : decode prog_3_method_12_code 25 = .ok (.tableswitch 72 1 5 #[35, 45, 39, 49, 63], 35)) (by decide) (by decide) rfl (by decide) ?_
    refine g_iload_n (by decide +kernel : decode prog_3_method_12_code 60 = .ok (.iload_n 2, 1)) rfl ?_
    refine g_iconst (v := nI 2) (by decide +kernel : decode prog_3_method_12_code 61 = .ok (.iconst 2, 1)) (by decide) ?_
    refine g_idiv (by decide +kernel : decode prog_3_method_12_code 62 = .ok (.idiv, 1)) (by decide) ?_
    exact g_iret hR (by decide +kernel : decode prog_3_method_12_code 63 = .ok (.ireturn, 1)) rfl ⟨_, rfl, ⟨by simp only [hidesF, ek, tn_nI (show 1 < 2 ^ 31 by decide)], rfl⟩⟩
  · refine g_tableIn (x := nI 2) (off := 45) (tgt := 70) (by decide +kernel : decode prog_3_method_12_code 25 = .ok (.tableswitch 72 1 5 #[35, 45, 39, 49, 63], 35)) (by decide) (by decide) rfl (by decide) ?_
    refine g_iload_n (by decide +kernel : decode prog_3_method_12_code 70 = .ok (.iload_n 2, 1)) rfl ?_
    refine g_iconst (v := nI 3) (by decide +kernel : decode prog_3_method_12_code 71 = .ok (.iconst 3, 1)) (by decide) ?_
    refine g_isub (by decide +kernel : decode prog_3_method_12_code 72 = .ok (.isub, 1)) ?_
    exact g_iret hR (by decide +kernel : decode prog_3_method_12_code 73 = .ok (.ireturn, 1)) rfl ⟨_, rfl, ⟨by simp only [hidesF, ek, tn_nI (show 2 < 2 ^ 31 by decide)], rfl⟩⟩
  · refine g_tableIn (x := nI 3) (off := 39) (tgt := 64) (by decide +kernel : decode prog_3_method_12_code 25 = .ok (.tableswitch 72 1 5 #[35, 45, 39, 49, 63], 35)) (by decide) (by decide) rfl (by decide) ?_
    refine g_iload_n (by decide +kernel : decode prog_3_method_12_code 64 = .ok (.iload_n 2, 1)) rfl ?_
    refine g_iconst (v := nI 2) (by decide +kernel : decode prog_3_method_12_code 65 = .ok (.iconst 2, 1)) (by decide) ?_
    refine g_idiv (by decide +kernel : decode prog_3_method_12_code 66 = .ok (.idiv, 1)) (by decide) ?_
    refine g_iconst (v := nI 2) (by decide +kernel : decode prog_3_method_12_code 67 = .ok (.iconst 2, 1)) (by decide) ?_
    refine g_iadd (by decide +kernel : decode prog_3_method_12_code 68 = .ok (.iadd, 1)) ?_
    exact g_iret hR (by decide +kernel : decode prog_3_method_12_code 69 = .ok (.ireturn, 1)) rfl ⟨_, rfl, ⟨by simp only [hidesF, ek, tn_nI (show 3 < 2 ^ 31 by decide)], rfl⟩⟩
  · refine g_tableIn (x := nI 4) (off := 49) (tgt := 74) (by decide +kernel : decode prog_3_method_12_code 25 = .ok (.tableswitch 72 1 5 #[35, 45, 39, 49, 63], 35)) (by decide) (by decide) rfl (by decide) ?_
    refine g_iload_n (by decide +kernel : decode prog_3_method_12_code 74 = .ok (.iload_n 2, 1)) rfl ?_
    refine g_iconst (v := nI 3) (by decide +kernel : decode prog_3_method_12_code 75 = .ok (.iconst 3, 1)) (by decide) ?_
    refine g_isub (by decide +kernel : decode prog_3_method_12_code 76 = .ok (.isub, 1)) ?_
    refine g_aload_n (by decide +kernel : decode prog_3_method_12_code 77 = .ok (.aload_n 0, 1)) rfl ?_
    refine g_getR (by decide +kernel : decode prog_3_method_12_code 78 = .ok (.getfield 21, 3)) fl_Pk_21 rfl rfl ?_
    refine g_iload_n (by decide +kernel : decode prog_3_method_12_code 81 = .ok (.iload_n 1, 1)) rfl ?_
    refine g_iaload (a := o) (by decide +kernel : decode prog_3_method_12_code 82 = .ok (.iaload, 1)) rfl rfl (by omega) (by decide) ?_
    refine g_top (w := f (19 + 6 * o + 1)) (hP.p1 (by omega)) ?_
    refine g_bipush (v := nI 10) (by decide +kernel : decode prog_3_method_12_code 83 = .ok (.bipush 10, 2)) (by decide) ?_
    refine g_idiv (by decide +kernel : decode prog_3_method_12_code 85 = .ok (.idiv, 1)) (by decide) ?_
    refine g_iadd (by decide +kernel : decode prog_3_method_12_code 86 = .ok (.iadd, 1)) ?_
    exact g_iret hR (by decide +kernel : decode prog_3_method_12_code 87 = .ok (.ireturn, 1)) rfl ⟨_, rfl, ⟨by simp only [hidesF, ek, tn_nI (show 4 < 2 ^ 31 by decide)], rfl⟩⟩
  · refine g_tableIn (x := nI 5) (off := 63) (tgt := 88) (by decide +kernel : decode prog_3_method_12_code 25 = .ok (.tableswitch 72 1 5 #[35, 45, 39, 49, 63], 35)) (by decide) (by decide) rfl (by decide) ?_
    refine g_iload_n (by decide +kernel : decode prog_3_method_12_code 88 = .ok (.iload_n 2, 1)) rfl ?_
    refine g_aload_n (by decide +kernel : decode prog_3_method_12_code 89 = .ok (.aload_n 0, 1)) rfl ?_
    refine g_getR (by decide +kernel : decode prog_3_method_12_code 90 = .ok (.getfield 9, 3)) fl_Pk_9 rfl rfl ?_
    refine g_iconst (v := nI 1) (by decide +kernel : decode prog_3_method_12_code 93 = .ok (.iconst 1, 1)) (by decide) ?_
    refine g_iaload (a := 1) (by decide +kernel : decode prog_3_method_12_code 94 = .ok (.iaload, 1)) rfl rfl (by decide) (by decide) ?_
    refine g_top (w := f 4) (hP.l (i := 1) (by decide)) ?_
    refine g_iadd (by decide +kernel : decode prog_3_method_12_code 95 = .ok (.iadd, 1)) ?_
    exact g_iret hR (by decide +kernel : decode prog_3_method_12_code 96 = .ok (.ireturn, 1)) rfl ⟨_, rfl, ⟨by simp only [hidesF, ek, tn_nI (show 5 < 2 ^ 31 by decide)], rfl⟩⟩
set_option maxRecDepth 20000 in
theorem c_strides {σ : Store} {f : Row} (hP : RP σ f) {o : Nat} (ho : o < nn f) : Ct ΛP mt_Pk_strides 0 [.ref 0, .int (nI o)] σ (PF (stridesF f o) σ) := by
  refine Ct.of (by decide) (Nat.le_of_ble_eq_true rfl) (fun X hR => ?_)
  show G (ΛP, mt_Pk_strides, 0) X σ [some (.ref 0), some (.int (nI o))] [] 0
  have hn8 := hP.n8
  obtain ⟨k, hk, ek⟩ := hP.i.2.1 o ho 0 (by decide)
  have hk6 : k ≤ 5 := hk
  have h3 : tn (f (19 + 6 * o + 3)) ≤ 11 := (hP.i.p ho 3).2
  refine g_aload_n (by decide +kernel : decode prog_3_method_14_code 0 = .ok (.aload_n 0, 1)) rfl ?_
  refine g_getR (by decide +kernel : decode prog_3_method_14_code 1 = .ok (.getfield 18, 3)) fl_Pk_18 rfl rfl ?_
  refine g_iload_n (by decide +kernel : decode prog_3_method_14_code 4 = .ok (.iload_n 1, 1)) rfl ?_
  refine g_iaload (a := o) (by decide +kernel : decode prog_3_method_14_code 5 = .ok (.iaload, 1)) rfl rfl (by omega) (by decide) ?_
  refine g_top (w := nI k) ((hP.p0 ho).trans ek) ?_
  rcases (show k = 0 ∨ k = 1 ∨ k = 2 ∨ k = 3 ∨ k = 4 ∨ k = 5 by omega) with rfl | rfl | rfl | rfl | rfl | rfl
  · refine g_tableOut (x := nI 0) (tgt := 51) (by decide +kernel : decode prog_3_method_14_code 6 = .ok (.tableswitch 45 1 5 #[34, 38, 36, 40, 43], 34)) (by decide) (by decide) ?_
    refine g_iconst (v := nI 1) (by decide +kernel : decode prog_3_method_14_code 51 = .ok (.iconst 1, 1)) (by decide) ?_
    exact g_iret hR (by decide +kernel : decode prog_3_method_14_code 52 = .ok (.ireturn, 1)) rfl ⟨_, rfl, ⟨by simp only [stridesF, ek, tn_nI (show 0 < 2 ^ 31 by decide)], rfl⟩⟩
  · refine g_tableIn (x := nI 1) (off := 34) (tgt := 40) (by decide +kernel : decode prog_3_method_14_code 6 = .ok (.tableswitch 45 1 5 #[34, 38, 36, 40, 43], 34)) (by decide) (by decide) rfl (by decide) ?_
    refine g_iconst (v := nI 2) (by decide +kernel : decode prog_3_method_14_code 40 = .ok (.iconst 2, 1)) (by decide) ?_
    exact g_iret hR (by decide +kernel : decode prog_3_method_14_code 41 = .ok (.ireturn, 1)) rfl ⟨_, rfl, ⟨by simp only [stridesF, ek, tn_nI (show 1 < 2 ^ 31 by decide)], rfl⟩⟩
  · refine g_tableIn (x := nI 2) (off := 38) (tgt := 44) (by decide +kernel : decode prog_3_method_14_code 6 = .ok (.tableswitch 45 1 5 #[34, 38, 36, 40, 43], 34)) (by decide) (by decide) rfl (by decide) ?_
    refine g_iconst (v := (-1)) (by decide +kernel : decode prog_3_method_14_code 44 = .ok (.iconst (-1), 1)) (by decide) ?_
    exact g_iret hR (by decide +kernel : decode prog_3_method_14_code 45 = .ok (.ireturn, 1)) rfl ⟨_, rfl, ⟨by simp only [stridesF, ek, tn_nI (show 2 < 2 ^ 31 by decide)], rfl⟩⟩
  · refine g_tableIn (x := nI 3) (off := 36) (tgt := 42) (by decide +kernel : decode prog_3_method_14_code 6 = .ok (.tableswitch 45 1 5 #[34, 38, 36, 40, 43], 34)) (by decide) (by decide) rfl (by decide) ?_
    refine g_iconst (v := nI 3) (by decide +kernel : decode prog_3_method_14_code 42 = .ok (.iconst 3, 1)) (by decide) ?_
    exact g_iret hR (by decide +kernel : decode prog_3_method_14_code 43 = .ok (.ireturn, 1)) rfl ⟨_, rfl, ⟨by simp only [stridesF, ek, tn_nI (show 3 < 2 ^ 31 by decide)], rfl⟩⟩
  · refine g_tableIn (x := nI 4) (off := 40) (tgt := 46) (by decide +kernel : decode prog_3_method_14_code 6 = .ok (.tableswitch 45 1 5 #[34, 38, 36, 40, 43], 34)) (by decide) (by decide) rfl (by decide) ?_
    refine g_bipush (v := (-2)) (by decide +kernel : decode prog_3_method_14_code 46 = .ok (.bipush (-2), 2)) (by decide) ?_
    exact g_iret hR (by decide +kernel : decode prog_3_method_14_code 48 = .ok (.ireturn, 1)) rfl ⟨_, rfl, ⟨by simp only [stridesF, ek, tn_nI (show 4 < 2 ^ 31 by decide)], rfl⟩⟩
  · refine g_tableIn (x := nI 5) (off := 43) (tgt := 49) (by decide +kernel : decode prog_3_method_14_code 6 = .ok (.tableswitch 45 1 5 #[34, 38, 36, 40, 43], 34)) (by decide) (by decide) rfl (by decide) ?_
    refine g_iconst (v := nI 0) (by decide +kernel : decode prog_3_method_14_code 49 = .ok (.iconst 0, 1)) (by decide) ?_
    exact g_iret hR (by decide +kernel : decode prog_3_method_14_code 50 = .ok (.ireturn, 1)) rfl ⟨_, rfl, ⟨by simp only [stridesF, ek, tn_nI (show 5 < 2 ^ 31 by decide)], rfl⟩⟩
set_option maxRecDepth 20000 in
theorem c_sees {σ : Store} {f : Row} (hP : RP σ f) {o : Nat} (ho : o < nn f) : Ct ΛP mt_Pk_sees 0 [.ref 0, .int (nI o)] σ (PF (seesF f o) σ) := by
  refine Ct.of (by decide) (Nat.le_of_ble_eq_true rfl) (fun X hR => ?_)
  show G (ΛP, mt_Pk_sees, 0) X σ [some (.ref 0), some (.int (nI o)), none] [] 0
  have hn8 := hP.n8
  obtain ⟨k, hk, ek⟩ := hP.i.2.1 o ho 0 (by decide)
  have hk6 : k ≤ 5 := hk
  have h3 : tn (f (19 + 6 * o + 3)) ≤ 11 := (hP.i.p ho 3).2
  refine g_iconst (v := nI 3) (by decide +kernel : decode prog_3_method_13_code 0 = .ok (.iconst 3, 1)) (by decide) ?_
  refine g_aload_n (by decide +kernel : decode prog_3_method_13_code 1 = .ok (.aload_n 0, 1)) rfl ?_
  refine g_getR (by decide +kernel : decode prog_3_method_13_code 2 = .ok (.getfield 24, 3)) fl_Pk_24 rfl rfl ?_
  refine g_iload_n (by decide +kernel : decode prog_3_method_13_code 5 = .ok (.iload_n 1, 1)) rfl ?_
  refine g_iaload (a := o) (by decide +kernel : decode prog_3_method_13_code 6 = .ok (.iaload, 1)) rfl rfl (by omega) (by decide) ?_
  refine g_top (w := f (19 + 6 * o + 2)) (hP.p2 (by omega)) ?_
  refine g_iadd (by decide +kernel : decode prog_3_method_13_code 7 = .ok (.iadd, 1)) ?_
  refine g_istore_n (L' := [some (.ref 0), some (.int (nI o)), some (.int ((nI 3) + (f (19 + 6 * o + 2))))]) (by decide +kernel : decode prog_3_method_13_code 8 = .ok (.istore_n 2, 1)) (Nat.le_of_ble_eq_true rfl) rfl ?_
  refine g_aload_n (by decide +kernel : decode prog_3_method_13_code 9 = .ok (.aload_n 0, 1)) rfl ?_
  refine g_getR (by decide +kernel : decode prog_3_method_13_code 10 = .ok (.getfield 18, 3)) fl_Pk_18 rfl rfl ?_
  refine g_iload_n (by decide +kernel : decode prog_3_method_13_code 13 = .ok (.iload_n 1, 1)) rfl ?_
  refine g_iaload (a := o) (by decide +kernel : decode prog_3_method_13_code 14 = .ok (.iaload, 1)) rfl rfl (by omega) (by decide) ?_
  refine g_top (w := nI k) ((hP.p0 ho).trans ek) ?_
  rcases (show k = 0 ∨ k = 1 ∨ k = 2 ∨ k = 3 ∨ k = 4 ∨ k = 5 by omega) with rfl | rfl | rfl | rfl | rfl | rfl
  · refine g_tableOut (x := nI 0) (tgt := 98) (by decide +kernel : decode prog_3_method_13_code 15 = .ok (.tableswitch 83 1 5 #[33, 53, 42, 57, 68], 33)) (by decide) (by decide) ?_
    refine g_iload_n (by decide +kernel : decode prog_3_method_13_code 98 = .ok (.iload_n 2, 1)) rfl ?_
    exact g_iret hR (by decide +kernel : decode prog_3_method_13_code 99 = .ok (.ireturn, 1)) rfl ⟨_, rfl, ⟨by simp only [seesF, ek, tn_nI (show 0 < 2 ^ 31 by decide)], rfl⟩⟩
  · refine g_tableIn (x := nI 1) (off := 33) (tgt := 48) (by decide +kernel : decode prog_3_method_13_code 15 = .ok (.tableswitch 83 1 5 #[33, 53, 42, 57, 68], 33)) (by decide) (by decide) rfl (by decide) ?_
    refine g_iload_n (by decide +kernel : decode prog_3_method_13_code 48 = .ok (.iload_n 2, 1)) rfl ?_
    refine g_aload_n (by decide +kernel : decode prog_3_method_13_code 49 = .ok (.aload_n 0, 1)) rfl ?_
    refine g_getR (by decide +kernel : decode prog_3_method_13_code 50 = .ok (.getfield 9, 3)) fl_Pk_9 rfl rfl ?_
    refine g_iconst (v := nI 2) (by decide +kernel : decode prog_3_method_13_code 53 = .ok (.iconst 2, 1)) (by decide) ?_
    refine g_iaload (a := 2) (by decide +kernel : decode prog_3_method_13_code 54 = .ok (.iaload, 1)) rfl rfl (by decide) (by decide) ?_
    refine g_top (w := f 5) (hP.l (i := 2) (by decide)) ?_
    refine g_iadd (by decide +kernel : decode prog_3_method_13_code 55 = .ok (.iadd, 1)) ?_
    exact g_iret hR (by decide +kernel : decode prog_3_method_13_code 56 = .ok (.ireturn, 1)) rfl ⟨_, rfl, ⟨by simp only [seesF, ek, tn_nI (show 1 < 2 ^ 31 by decide)], rfl⟩⟩
  · refine g_tableIn (x := nI 2) (off := 53) (tgt := 68) (by decide +kernel : decode prog_3_method_13_code 15 = .ok (.tableswitch 83 1 5 #[33, 53, 42, 57, 68], 33)) (by decide) (by decide) rfl (by decide) ?_
    refine g_iload_n (by decide +kernel : decode prog_3_method_13_code 68 = .ok (.iload_n 2, 1)) rfl ?_
    refine g_iconst (v := nI 4) (by decide +kernel : decode prog_3_method_13_code 69 = .ok (.iconst 4, 1)) (by decide) ?_
    refine g_iadd (by decide +kernel : decode prog_3_method_13_code 70 = .ok (.iadd, 1)) ?_
    exact g_iret hR (by decide +kernel : decode prog_3_method_13_code 71 = .ok (.ireturn, 1)) rfl ⟨_, rfl, ⟨by simp only [seesF, ek, tn_nI (show 2 < 2 ^ 31 by decide)], rfl⟩⟩
  · refine g_tableIn (x := nI 3) (off := 42) (tgt := 57) (by decide +kernel : decode prog_3_method_13_code 15 = .ok (.tableswitch 83 1 5 #[33, 53, 42, 57, 68], 33)) (by decide) (by decide) rfl (by decide) ?_
    refine g_iload_n (by decide +kernel : decode prog_3_method_13_code 57 = .ok (.iload_n 2, 1)) rfl ?_
    refine g_aload_n (by decide +kernel : decode prog_3_method_13_code 58 = .ok (.aload_n 0, 1)) rfl ?_
    refine g_getR (by decide +kernel : decode prog_3_method_13_code 59 = .ok (.getfield 9, 3)) fl_Pk_9 rfl rfl ?_
    refine g_iconst (v := nI 2) (by decide +kernel : decode prog_3_method_13_code 62 = .ok (.iconst 2, 1)) (by decide) ?_
    refine g_iaload (a := 2) (by decide +kernel : decode prog_3_method_13_code 63 = .ok (.iaload, 1)) rfl rfl (by decide) (by decide) ?_
    refine g_top (w := f 5) (hP.l (i := 2) (by decide)) ?_
    refine g_iadd (by decide +kernel : decode prog_3_method_13_code 64 = .ok (.iadd, 1)) ?_
    refine g_iconst (v := nI 2) (by decide +kernel : decode prog_3_method_13_code 65 = .ok (.iconst 2, 1)) (by decide) ?_
    refine g_imul (by decide +kernel : decode prog_3_method_13_code 66 = .ok (.imul, 1)) ?_
    exact g_iret hR (by decide +kernel : decode prog_3_method_13_code 67 = .ok (.ireturn, 1)) rfl ⟨_, rfl, ⟨by simp only [seesF, ek, tn_nI (show 3 < 2 ^ 31 by decide), Int32.mul_comm], rfl⟩⟩
  · refine g_tableIn (x := nI 4) (off := 57) (tgt := 72) (by decide +kernel : decode prog_3_method_13_code 15 = .ok (.tableswitch 83 1 5 #[33, 53, 42, 57, 68], 33)) (by decide) (by decide) rfl (by decide) ?_
    refine g_iload_n (by decide +kernel : decode prog_3_method_13_code 72 = .ok (.iload_n 2, 1)) rfl ?_
    refine g_iconst (v := nI 4) (by decide +kernel : decode prog_3_method_13_code 73 = .ok (.iconst 4, 1)) (by decide) ?_
    refine g_iadd (by decide +kernel : decode prog_3_method_13_code 74 = .ok (.iadd, 1)) ?_
    refine g_aload_n (by decide +kernel : decode prog_3_method_13_code 75 = .ok (.aload_n 0, 1)) rfl ?_
    refine g_getR (by decide +kernel : decode prog_3_method_13_code 76 = .ok (.getfield 9, 3)) fl_Pk_9 rfl rfl ?_
    refine g_iconst (v := nI 1) (by decide +kernel : decode prog_3_method_13_code 79 = .ok (.iconst 1, 1)) (by decide) ?_
    refine g_iaload (a := 1) (by decide +kernel : decode prog_3_method_13_code 80 = .ok (.iaload, 1)) rfl rfl (by decide) (by decide) ?_
    refine g_top (w := f 4) (hP.l (i := 1) (by decide)) ?_
    refine g_isub (by decide +kernel : decode prog_3_method_13_code 81 = .ok (.isub, 1)) ?_
    exact g_iret hR (by decide +kernel : decode prog_3_method_13_code 82 = .ok (.ireturn, 1)) rfl ⟨_, rfl, ⟨by simp only [seesF, ek, tn_nI (show 4 < 2 ^ 31 by decide)], rfl⟩⟩
  · refine g_tableIn (x := nI 5) (off := 68) (tgt := 83) (by decide +kernel : decode prog_3_method_13_code 15 = .ok (.tableswitch 83 1 5 #[33, 53, 42, 57, 68], 33)) (by decide) (by decide) rfl (by decide) ?_
    refine g_aload_n (by decide +kernel : decode prog_3_method_13_code 83 = .ok (.aload_n 0, 1)) rfl ?_
    refine g_getI (by decide +kernel : decode prog_3_method_13_code 84 = .ok (.getfield 52, 3)) fl_Pk_52.get rfl rfl ?_
    refine g_top (w := f 1) (hP.y) ?_
    refine g_iconst (v := nI 2) (by decide +kernel : decode prog_3_method_13_code 87 = .ok (.iconst 2, 1)) (by decide) ?_
    refine g_irem (by decide +kernel : decode prog_3_method_13_code 88 = .ok (.irem, 1)) (by decide) ?_
    refine g_if_ne (tgt := 96) (by decide +kernel : decode prog_3_method_13_code 89 = .ok (.ifCond .ne 7, 3)) (by decide) (fun h89 => ?_) (fun h89 => ?_)
    · refine g_iconst (v := nI 0) (by decide +kernel : decode prog_3_method_13_code 96 = .ok (.iconst 0, 1)) (by decide) ?_
      exact g_iret hR (by decide +kernel : decode prog_3_method_13_code 97 = .ok (.ireturn, 1)) rfl ⟨_, rfl, ⟨by simp only [seesF, ek, tn_nI (show 5 < 2 ^ 31 by decide), h89, ↓reduceIte], rfl⟩⟩
    · refine g_iload_n (by decide +kernel : decode prog_3_method_13_code 92 = .ok (.iload_n 2, 1)) rfl ?_
      refine g_goto (tgt := 97) (by decide +kernel : decode prog_3_method_13_code 93 = .ok (.goto 4, 3)) (by decide) ?_
      exact g_iret hR (by decide +kernel : decode prog_3_method_13_code 97 = .ok (.ireturn, 1)) rfl ⟨_, rfl, ⟨by simp only [seesF, ek, tn_nI (show 5 < 2 ^ 31 by decide), h89, ↓reduceIte], rfl⟩⟩
section GRW
variable {F : Row} {k : Nat}
theorem grow1_A (hI : Inv F) (hk : k < nn F) (h : tn (F (19 + 6 * k + 1)) < 99) : lst (nI 99) (F (19 + 6 * k + 1) + nI 1) = nI (tn (F (19 + 6 * k + 1)) + 1) := by
  have hp := hI.p hk 1
  generalize F (19 + 6 * k + 1) = v at *
  rw [hp.1, nI_add, tn_nI (by omega)]
  unfold lst
  rw [if_neg (fun z => by have := (nI_ltI (a := 99) (b := tn v + 1) (by decide) (by omega)).mp z; omega)]
theorem grow1_B (hI : Inv F) (hk : k < nn F) (h : ¬ tn (F (19 + 6 * k + 1)) < 99) : lst (nI 99) (F (19 + 6 * k + 1) + nI 1) = F (19 + 6 * k + 1) := by
  have hp := hI.p hk 1
  have h9 : tn (F (19 + 6 * k + 1)) ≤ 99 := hp.2
  have e : tn (F (19 + 6 * k + 1)) = 99 := by omega
  rw [hp.1, e]; rfl
theorem out_n (hI : Inv F) : F 3 = nI (tn (F 3)) ∧ tn (F 3) ≤ 99 := (hI.2.2.1 0 (by decide)).e
theorem g1_yn (hI : Inv F) (hk : k < nn F) (h : tn (F (19 + 6 * k + 1)) < 99) (h2 : tn (F (19 + 6 * k + 1)) + 1 < tn (F 3)) : grow1 F k = upd F (19 + 6 * k + 1) (nI (tn (F (19 + 6 * k + 1)) + 1)) := by
  unfold grow1
  dsimp only
  rw [grow1_A hI hk h, upd_s, upd_n (show 3 ≠ 19 + 6 * k + 1 by omega), if_pos, upd_self]
  rw [(out_n hI).1]
  exact (nI_ltI (by omega) (by have := (out_n hI).2; omega)).mpr h2
theorem g1_yh (hI : Inv F) (hk : k < nn F) (h : tn (F (19 + 6 * k + 1)) < 99) (h2 : ¬ tn (F (19 + 6 * k + 1)) + 1 < tn (F 3)) : grow1 F k = upd (upd F (19 + 6 * k + 1) (nI (tn (F (19 + 6 * k + 1)) + 1))) (19 + 6 * k + 4) (nI 0) := by
  unfold grow1
  dsimp only
  rw [grow1_A hI hk h, upd_s, upd_n (show 3 ≠ 19 + 6 * k + 1 by omega), if_neg]
  rw [(out_n hI).1]
  exact fun z => h2 ((nI_ltI (by omega) (by have := (out_n hI).2; omega)).mp z)
theorem g1_nn (hI : Inv F) (hk : k < nn F) (h : ¬ tn (F (19 + 6 * k + 1)) < 99) (h2 : tn (F (19 + 6 * k + 1)) < tn (F 3)) : grow1 F k = F := by
  have hp := hI.p hk 1
  have h9 : tn (F (19 + 6 * k + 1)) ≤ 99 := hp.2
  unfold grow1
  dsimp only
  rw [grow1_B hI hk h, upd_self, if_pos, upd_self]
  rw [(out_n hI).1, hp.1]
  exact (nI_ltI (by omega) (by have := (out_n hI).2; omega)).mpr h2
theorem g1_nh (hI : Inv F) (hk : k < nn F) (h : ¬ tn (F (19 + 6 * k + 1)) < 99) (h2 : ¬ tn (F (19 + 6 * k + 1)) < tn (F 3)) : grow1 F k = upd F (19 + 6 * k + 4) (nI 0) := by
  have hp := hI.p hk 1
  have h9 : tn (F (19 + 6 * k + 1)) ≤ 99 := hp.2
  unfold grow1
  dsimp only
  rw [grow1_B hI hk h, upd_self, if_neg]
  rw [(out_n hI).1, hp.1]
  exact fun z => h2 ((nI_ltI (by omega) (by have := (out_n hI).2; omega)).mp z)
end GRW
set_option maxRecDepth 20000 in
theorem c_grow_lp {X : CX} {f : Row} (hI : Inv f) : ∀ (b9 k : Nat) (σ : Store), RP σ (growN f k) → k ≤ nn f → nn f - k < b9 → Rt (ΛP, mt_Pk_growOlder, 1) (PV (fun σ' => RP σ' (growN f (nn f)))) X → G (ΛP, mt_Pk_growOlder, 1) X σ [some (.ref 0), some (.int (nI k))] [] 2 := by
  have hn8 := hI.n.2
  intro b9
  induction b9 with
  | zero => intro k σ hP hk hb hR; omega
  | succ b9 ih =>
  intro k σ hP hk hb hR
  have hN := (growN_inv hI k hk).2
  have h99 : k < nn f → tn (growN f k (19 + 6 * k + 1)) ≤ 99 := fun z => (hP.i.p (by omega) 1).2
  have h98 := (out_n hP.i).2
  refine g_iload_n (by decide +kernel : decode prog_3_method_17_code 2 = .ok (.iload_n 1, 1)) rfl ?_
  refine g_aload_n (by decide +kernel : decode prog_3_method_17_code 3 = .ok (.aload_n 0, 1)) rfl ?_
  refine g_getI (by decide +kernel : decode prog_3_method_17_code 4 = .ok (.getfield 46, 3)) fl_Pk_46.get rfl rfl ?_
  refine g_top (w := nI (nn (growN f k))) (hP.n) ?_
  refine g_icmp_geN (tgt := 58) (by decide +kernel : decode prog_3_method_17_code 7 = .ok (.if_icmp .ge 51, 3)) (by decide) (by omega) (by omega) (fun h7 => ?_) (fun h7 => ?_)
  · obtain rfl : k = nn f := by omega
    exact g_vret hR (by decide +kernel : decode prog_3_method_17_code 58 = .ok (.return_, 1)) rfl ⟨rfl, hP⟩
  · refine g_aload_n (by decide +kernel : decode prog_3_method_17_code 10 = .ok (.aload_n 0, 1)) rfl ?_
    refine g_getR (by decide +kernel : decode prog_3_method_17_code 11 = .ok (.getfield 21, 3)) fl_Pk_21 rfl rfl ?_
    refine g_iload_n (by decide +kernel : decode prog_3_method_17_code 14 = .ok (.iload_n 1, 1)) rfl ?_
    refine g_iaload (a := k) (by decide +kernel : decode prog_3_method_17_code 15 = .ok (.iaload, 1)) rfl rfl (by omega) (by decide) ?_
    refine g_top (w := nI (tn (growN f k (19 + 6 * k + 1)))) ((hP.p1 (by omega)).trans (hP.i.p (by omega) 1).1) ?_
    refine g_bipush (v := nI 99) (by decide +kernel : decode prog_3_method_17_code 16 = .ok (.bipush 99, 2)) (by decide) ?_
    refine g_icmp_geN (tgt := 31) (by decide +kernel : decode prog_3_method_17_code 18 = .ok (.if_icmp .ge 13, 3)) (by decide) (by omega) (by decide) (fun h18 => ?_) (fun h18 => ?_)
    · refine g_aload_n (by decide +kernel : decode prog_3_method_17_code 31 = .ok (.aload_n 0, 1)) rfl ?_
      refine g_getR (by decide +kernel : decode prog_3_method_17_code 32 = .ok (.getfield 21, 3)) fl_Pk_21 rfl rfl ?_
      refine g_iload_n (by decide +kernel : decode prog_3_method_17_code 35 = .ok (.iload_n 1, 1)) rfl ?_
      refine g_iaload (a := k) (by decide +kernel : decode prog_3_method_17_code 36 = .ok (.iaload, 1)) rfl rfl (by omega) (by decide) ?_
      refine g_top (w := nI (tn (growN f k (19 + 6 * k + 1)))) ((hP.p1 (by omega)).trans (hP.i.p (by omega) 1).1) ?_
      refine g_aload_n (by decide +kernel : decode prog_3_method_17_code 37 = .ok (.aload_n 0, 1)) rfl ?_
      refine g_getR (by decide +kernel : decode prog_3_method_17_code 38 = .ok (.getfield 9, 3)) fl_Pk_9 rfl rfl ?_
      refine g_iconst (v := nI 0) (by decide +kernel : decode prog_3_method_17_code 41 = .ok (.iconst 0, 1)) (by decide) ?_
      refine g_iaload (a := 0) (by decide +kernel : decode prog_3_method_17_code 42 = .ok (.iaload, 1)) rfl rfl (by decide) (by decide) ?_
      refine g_top (w := nI (tn (growN f k 3))) ((hP.l (i := 0) (by decide)).trans (out_n hP.i).1) ?_
      refine g_icmp_ltN (tgt := 52) (by decide +kernel : decode prog_3_method_17_code 43 = .ok (.if_icmp .lt 9, 3)) (by decide) (by omega) (by omega) (fun h43 => ?_) (fun h43 => ?_)
      · refine g_iincN (n := 1) (L' := [some (.ref 0), some (.int (nI (k + 1)))]) (by decide +kernel : decode prog_3_method_17_code 52 = .ok (.iinc 1 1, 3)) rfl (by decide) (Nat.le_of_ble_eq_true rfl) rfl ?_
        refine g_goto (tgt := 2) (by decide +kernel : decode prog_3_method_17_code 55 = .ok (.goto (-53), 3)) (by decide) ?_
        have e9 : growN f (k + 1) = _ := g1_nn hP.i (show k < nn (growN f k) by omega) (by omega) (by omega)
        exact ih (k + 1) _ (by rw [e9]; exact hP) (by omega) (by omega) hR
      · refine g_aload_n (by decide +kernel : decode prog_3_method_17_code 46 = .ok (.aload_n 0, 1)) rfl ?_
        refine g_iload_n (by decide +kernel : decode prog_3_method_17_code 47 = .ok (.iload_n 1, 1)) rfl ?_
        refine g_iconst (v := nI 0) (by decide +kernel : decode prog_3_method_17_code 48 = .ok (.iconst 0, 1)) (by decide) ?_
        refine g_callVV [.int (nI k), .int (nI 0)] (by decide +kernel : decode prog_3_method_17_code 49 = .ok (.invokevirtual 61, 3)) lk_Pk_61 (c_hide0 hP (o := k) (by omega)) rfl rfl rfl rfl (Nat.le_of_ble_eq_true rfl) (Nat.le_of_ble_eq_true rfl) (fun s49 h49 => ?_)
        obtain ⟨g49, _⟩ := h49
        refine g_iincN (n := 1) (L' := [some (.ref 0), some (.int (nI (k + 1)))]) (by decide +kernel : decode prog_3_method_17_code 52 = .ok (.iinc 1 1, 3)) rfl (by decide) (Nat.le_of_ble_eq_true rfl) rfl ?_
        refine g_goto (tgt := 2) (by decide +kernel : decode prog_3_method_17_code 55 = .ok (.goto (-53), 3)) (by decide) ?_
        have e9 : growN f (k + 1) = _ := g1_nh hP.i (show k < nn (growN f k) by omega) (by omega) (by omega)
        exact ih (k + 1) _ (by rw [e9]; exact g49) (by omega) (by omega) hR
    · refine g_aload_n (by decide +kernel : decode prog_3_method_17_code 21 = .ok (.aload_n 0, 1)) rfl ?_
      refine g_getR (by decide +kernel : decode prog_3_method_17_code 22 = .ok (.getfield 21, 3)) fl_Pk_21 rfl rfl ?_
      refine g_iload_n (by decide +kernel : decode prog_3_method_17_code 25 = .ok (.iload_n 1, 1)) rfl ?_
      refine g_dup2 (by decide +kernel : decode prog_3_method_17_code 26 = .ok (.dup2, 1)) rfl rfl ?_
      refine g_iaload (a := k) (by decide +kernel : decode prog_3_method_17_code 27 = .ok (.iaload, 1)) rfl rfl (by omega) (by decide) ?_
      refine g_top (w := nI (tn (growN f k (19 + 6 * k + 1)))) ((hP.p1 (by omega)).trans (hP.i.p (by omega) 1).1) ?_
      refine g_iconst (v := nI 1) (by decide +kernel : decode prog_3_method_17_code 28 = .ok (.iconst 1, 1)) (by decide) ?_
      refine g_iaddN (by decide +kernel : decode prog_3_method_17_code 29 = .ok (.iadd, 1)) ?_
      refine g_iastore (a := k) (by decide +kernel : decode prog_3_method_17_code 30 = .ok (.iastore, 1)) rfl rfl (by omega) (by decide) ?_
      have p31 := hP.u1 (o := k) (v := (nI (tn (growN f k (19 + 6 * k + 1)) + 1))) (Rng.of (show _ ≤ 99 by omega))
      refine g_aload_n (by decide +kernel : decode prog_3_method_17_code 31 = .ok (.aload_n 0, 1)) rfl ?_
      refine g_getR (by decide +kernel : decode prog_3_method_17_code 32 = .ok (.getfield 21, 3)) fl_Pk_21 rfl rfl ?_
      refine g_iload_n (by decide +kernel : decode prog_3_method_17_code 35 = .ok (.iload_n 1, 1)) rfl ?_
      refine g_iaload (a := k) (by decide +kernel : decode prog_3_method_17_code 36 = .ok (.iaload, 1)) rfl rfl (by omega) (by decide) ?_
      refine g_top (w := nI (tn (growN f k (19 + 6 * k + 1)) + 1)) ((p31.p1 (by rw [nn_up (by omega)]; omega)).trans upd_s) ?_
      refine g_aload_n (by decide +kernel : decode prog_3_method_17_code 37 = .ok (.aload_n 0, 1)) rfl ?_
      refine g_getR (by decide +kernel : decode prog_3_method_17_code 38 = .ok (.getfield 9, 3)) fl_Pk_9 rfl rfl ?_
      refine g_iconst (v := nI 0) (by decide +kernel : decode prog_3_method_17_code 41 = .ok (.iconst 0, 1)) (by decide) ?_
      refine g_iaload (a := 0) (by decide +kernel : decode prog_3_method_17_code 42 = .ok (.iaload, 1)) rfl rfl (by decide) (by decide) ?_
      refine g_top (w := nI (tn (growN f k 3))) ((p31.l (i := 0) (by decide)).trans ((upd_n (show 3 + 0 ≠ _ by omega)).trans (out_n hP.i).1)) ?_
      refine g_icmp_ltN (tgt := 52) (by decide +kernel : decode prog_3_method_17_code 43 = .ok (.if_icmp .lt 9, 3)) (by decide) (by omega) (by omega) (fun h43 => ?_) (fun h43 => ?_)
      · refine g_iincN (n := 1) (L' := [some (.ref 0), some (.int (nI (k + 1)))]) (by decide +kernel : decode prog_3_method_17_code 52 = .ok (.iinc 1 1, 3)) rfl (by decide) (Nat.le_of_ble_eq_true rfl) rfl ?_
        refine g_goto (tgt := 2) (by decide +kernel : decode prog_3_method_17_code 55 = .ok (.goto (-53), 3)) (by decide) ?_
        have e9 : growN f (k + 1) = _ := g1_yn hP.i (show k < nn (growN f k) by omega) (by omega) (by omega)
        exact ih (k + 1) _ (by rw [e9]; exact p31) (by omega) (by omega) hR
      · refine g_aload_n (by decide +kernel : decode prog_3_method_17_code 46 = .ok (.aload_n 0, 1)) rfl ?_
        refine g_iload_n (by decide +kernel : decode prog_3_method_17_code 47 = .ok (.iload_n 1, 1)) rfl ?_
        refine g_iconst (v := nI 0) (by decide +kernel : decode prog_3_method_17_code 48 = .ok (.iconst 0, 1)) (by decide) ?_
        refine g_callVV [.int (nI k), .int (nI 0)] (by decide +kernel : decode prog_3_method_17_code 49 = .ok (.invokevirtual 61, 3)) lk_Pk_61 (c_hide0 p31 (o := k) (by rw [nn_up (by omega)]; omega)) rfl rfl rfl rfl (Nat.le_of_ble_eq_true rfl) (Nat.le_of_ble_eq_true rfl) (fun s49 h49 => ?_)
        obtain ⟨g49, _⟩ := h49
        refine g_iincN (n := 1) (L' := [some (.ref 0), some (.int (nI (k + 1)))]) (by decide +kernel : decode prog_3_method_17_code 52 = .ok (.iinc 1 1, 3)) rfl (by decide) (Nat.le_of_ble_eq_true rfl) rfl ?_
        refine g_goto (tgt := 2) (by decide +kernel : decode prog_3_method_17_code 55 = .ok (.goto (-53), 3)) (by decide) ?_
        have e9 : growN f (k + 1) = _ := g1_yh hP.i (show k < nn (growN f k) by omega) (by omega) (by omega)
        exact ih (k + 1) _ (by rw [e9]; exact g49) (by omega) (by omega) hR
set_option maxRecDepth 20000 in
theorem c_growOlder {σ : Store} {f : Row} (hP : RP σ f)  : Ct ΛP mt_Pk_growOlder 1 [.ref 0] σ (PV (fun σ' => RP σ' (growN f (nn f)))) := by
  refine Ct.of (by decide) (Nat.le_of_ble_eq_true rfl) (fun X hR => ?_)
  show G (ΛP, mt_Pk_growOlder, 1) X σ [some (.ref 0), none] [] 0
  have hn8 := hP.n8
  refine g_iconst (v := nI 0) (by decide +kernel : decode prog_3_method_17_code 0 = .ok (.iconst 0, 1)) (by decide) ?_
  refine g_istore_n (L' := [some (.ref 0), some (.int (nI 0))]) (by decide +kernel : decode prog_3_method_17_code 1 = .ok (.istore_n 1, 1)) (Nat.le_of_ble_eq_true rfl) rfl ?_
  exact c_grow_lp hP.i (nn f + 1) 0 σ hP (Nat.zero_le _) (by omega) hR
