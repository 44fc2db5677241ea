/-! THE PROGRAM: the years of a park -/
/-- who was found by whom in the latest year -/
def RB (σ : Store) (b : Row) (n : Nat) : Prop := ∀ o, o < n → (b o = -1 ∧ σ 8 o = -3) ∨ ∃ j, j < 8 ∧ b o = nI j ∧ σ 8 o = nI j
theorem RB.cg {σ τ : Store} {b : Row} {n : Nat} (h : RB σ b n) (e : τ 8 = σ 8) : RB τ b n := by
  intro o ho; rw [e]; exact h o ho
theorem RB.up {σ τ : Store} {b : Row} {n q o : Nat} (h : RB σ b n) (ho : o < 8) (e : τ 8 = upd (σ 8) q (nI o)) : RB τ (upd b q (nI o)) n := by
  intro i hi
  rw [e]
  by_cases hq : i = q
  · subst hq; rw [upd_s, upd_s]; exact Or.inr ⟨o, ho, rfl, rfl⟩
  · rw [upd_n hq, upd_n hq]; exact h i hi
theorem RB.rst {σ : Store} {b : Row} {n : Nat} (h : ∀ q, q < n → σ 8 q = -3) : RB σ (rstB b n) n := by
  intro o ho
  refine Or.inl ⟨?_, h o ho⟩
  have : ∀ k, o < k → rstB b k o = -1 := by
    intro k
    induction k with
    | zero => intro h; omega
    | succ k ih =>
      intro hk
      unfold rstB
      by_cases e : o = k
      · subst e; exact upd_s
      · rw [upd_n e]; exact ih (by omega)
  exact this n ho
theorem fnd_A {G : Row} {k : Nat} (hI : Inv G) (hk : k < nn G) (h : tn (G (19 + 6 * k + 5)) < 99) : lst (nI 99) (G (19 + 6 * k + 5) + nI 1) = nI (tn (G (19 + 6 * k + 5)) + 1) := by
  have hp := hI.p hk 5
  generalize G (19 + 6 * k + 5) = v at *
  rw [hp.1, nI_add, tn_nI (by omega)]
  unfold lst
  rw [if_neg (fun z => by have := (nI_ltI (a := 99) (b := tn v + 1) (by decide) (by omega)).mp z; omega)]
theorem fnd_B {G : Row} {k : Nat} (hI : Inv G) (hk : k < nn G) (h : ¬ tn (G (19 + 6 * k + 5)) < 99) : lst (nI 99) (G (19 + 6 * k + 5) + nI 1) = G (19 + 6 * k + 5) := by
  have hp := hI.p hk 5
  have h9 : tn (G (19 + 6 * k + 5)) ≤ 99 := hp.2
  have e : tn (G (19 + 6 * k + 5)) = 99 := by omega
  rw [hp.1, e]; rfl
set_option maxRecDepth 20000 in
theorem c_find_lp {X : CX} {σ : Store} {f b : Row} (hP : RP σ f) (hB : RB σ b (nn f)) {o : Nat} (ho : o < nn f) {r : Option Nat} : ∀ (b9 q : Nat), q ≤ nn f → nn f - q < b9 → findQ f o (nn f - q) q = r → Rt (ΛP, mt_Pk_findOne, 1) (PV (fun σ' => RP σ' (seekF f o r) ∧ RB σ' (seekB b o r) (nn f))) X → G (ΛP, mt_Pk_findOne, 1) X σ [some (.ref 0), some (.int (nI o)), some (.int (seesF f o)), some (.int (nI q))] [] 8 := by
  have hn8 := hP.n8
  have hN2 : ∀ q, nn (upd f (19 + 6 * q + 4) (nI 0)) = nn f := fun q => nn_up (by omega)
  have hN3 : ∀ q, nn (upd (upd f (19 + 6 * q + 4) (nI 0)) (19 + 6 * o + 4) (nI 1)) = nn f := fun q => by rw [nn_up (by omega), nn_up (by omega)]
  intro b9
  induction b9 with
  | zero => intro q hq hb hr hR; omega
  | succ b9 ih =>
  intro q hq hb hr hR
  have hN4 := hN3 q
  refine g_iload_n (by decide +kernel : decode prog_3_method_19_code 8 = .ok (.iload_n 3, 1)) rfl ?_
  refine g_aload_n (by decide +kernel : decode prog_3_method_19_code 9 = .ok (.aload_n 0, 1)) rfl ?_
  refine g_getI (by decide +kernel : decode prog_3_method_19_code 10 = .ok (.getfield 46, 3)) fl_Pk_46.get rfl rfl ?_
  refine g_top (w := nI (nn f)) (hP.n) ?_
  refine g_icmp_geN (tgt := 95) (by decide +kernel : decode prog_3_method_19_code 13 = .ok (.if_icmp .ge 82, 3)) (by decide) (by omega) (by omega) (fun h13 => ?_) (fun h13 => ?_)
  · obtain rfl : q = nn f := by omega
    have e9 : r = none := by rw [← hr, Nat.sub_self]; rfl
    subst e9
    exact g_vret hR (by decide +kernel : decode prog_3_method_19_code 95 = .ok (.return_, 1)) rfl ⟨rfl, hP, hB⟩
  · refine g_aload_n (by decide +kernel : decode prog_3_method_19_code 16 = .ok (.aload_n 0, 1)) rfl ?_
    refine g_iload_n (by decide +kernel : decode prog_3_method_19_code 17 = .ok (.iload_n 3, 1)) rfl ?_
    refine g_callVI [.int (nI q)] (by decide +kernel : decode prog_3_method_19_code 18 = .ok (.invokevirtual 71, 3)) lk_Pk_71 (c_isHidden hP (o := q) (by omega)) rfl rfl rfl rfl (Nat.le_of_ble_eq_true rfl) (Nat.le_of_ble_eq_true rfl) (fun r18 s18 h18 => ?_)
    rcases h18 with ⟨e18, ⟨rfl, q18⟩ | ⟨rfl, q18⟩⟩
    · have e18 := e18.symm; subst e18
      refine g_if_eqN (tgt := 89) (by decide +kernel : decode prog_3_method_19_code 21 = .ok (.ifCond .eq 68, 3)) (by decide) (by decide) (fun h => False.elim (by revert h; decide)) (fun _ => ?_)
      refine g_aload_n (by decide +kernel : decode prog_3_method_19_code 24 = .ok (.aload_n 0, 1)) rfl ?_
      refine g_getR (by decide +kernel : decode prog_3_method_19_code 25 = .ok (.getfield 27, 3)) fl_Pk_27 rfl rfl ?_
      refine g_iload_n (by decide +kernel : decode prog_3_method_19_code 28 = .ok (.iload_n 3, 1)) rfl ?_
      refine g_iaload (a := q) (by decide +kernel : decode prog_3_method_19_code 29 = .ok (.iaload, 1)) rfl rfl (by omega) (by decide) ?_
      refine g_top (w := f (19 + 6 * q + 3)) (hP.p3 (by omega)) ?_
      refine g_aload_n (by decide +kernel : decode prog_3_method_19_code 30 = .ok (.aload_n 0, 1)) rfl ?_
      refine g_getR (by decide +kernel : decode prog_3_method_19_code 31 = .ok (.getfield 27, 3)) fl_Pk_27 rfl rfl ?_
      refine g_iload_n (by decide +kernel : decode prog_3_method_19_code 34 = .ok (.iload_n 1, 1)) rfl ?_
      refine g_iaload (a := o) (by decide +kernel : decode prog_3_method_19_code 35 = .ok (.iaload, 1)) rfl rfl (by omega) (by decide) ?_
      refine g_top (w := f (19 + 6 * o + 3)) (hP.p3 (by omega)) ?_
      refine g_icmp_ne (tgt := 89) (by decide +kernel : decode prog_3_method_19_code 36 = .ok (.if_icmp .ne 53, 3)) (by decide) (fun h36 => ?_) (fun h36 => ?_)
      · refine g_iincN (n := 1) (L' := [some (.ref 0), some (.int (nI o)), some (.int (seesF f o)), some (.int (nI (q + 1)))]) (by decide +kernel : decode prog_3_method_19_code 89 = .ok (.iinc 3 1, 3)) rfl (by decide) (Nat.le_of_ble_eq_true rfl) rfl ?_
        refine g_goto (tgt := 8) (by decide +kernel : decode prog_3_method_19_code 92 = .ok (.goto (-84), 3)) (by decide) ?_
        exact ih (q + 1) (by omega) (by omega) ((findQ_no (by omega) (fun z => by first | exact q18 z.1 | exact h36 z.2.1 | exact absurd z.2.2 (Int32.not_lt.mpr h45))).symm.trans hr) hR
      · refine g_aload_n (by decide +kernel : decode prog_3_method_19_code 39 = .ok (.aload_n 0, 1)) rfl ?_
        refine g_iload_n (by decide +kernel : decode prog_3_method_19_code 40 = .ok (.iload_n 3, 1)) rfl ?_
        refine g_callVI [.int (nI q)] (by decide +kernel : decode prog_3_method_19_code 41 = .ok (.invokevirtual 103, 3)) lk_Pk_103 (c_hides hP (o := q) (by omega)) rfl rfl rfl rfl (Nat.le_of_ble_eq_true rfl) (Nat.le_of_ble_eq_true rfl) (fun r41 s41 h41 => ?_)
        obtain ⟨rfl, e41⟩ := h41
        have e41 := e41.symm; subst e41
        refine g_iload_n (by decide +kernel : decode prog_3_method_19_code 44 = .ok (.iload_n 2, 1)) rfl ?_
        refine g_icmp_ge (tgt := 89) (by decide +kernel : decode prog_3_method_19_code 45 = .ok (.if_icmp .ge 44, 3)) (by decide) (fun h45 => ?_) (fun h45 => ?_)
        · refine g_iincN (n := 1) (L' := [some (.ref 0), some (.int (nI o)), some (.int (seesF f o)), some (.int (nI (q + 1)))]) (by decide +kernel : decode prog_3_method_19_code 89 = .ok (.iinc 3 1, 3)) rfl (by decide) (Nat.le_of_ble_eq_true rfl) rfl ?_
          refine g_goto (tgt := 8) (by decide +kernel : decode prog_3_method_19_code 92 = .ok (.goto (-84), 3)) (by decide) ?_
          exact ih (q + 1) (by omega) (by omega) ((findQ_no (by omega) (fun z => by first | exact q18 z.1 | exact h36 z.2.1 | exact absurd z.2.2 (Int32.not_lt.mpr h45))).symm.trans hr) hR
        · refine g_aload_n (by decide +kernel : decode prog_3_method_19_code 48 = .ok (.aload_n 0, 1)) rfl ?_
          refine g_iload_n (by decide +kernel : decode prog_3_method_19_code 49 = .ok (.iload_n 3, 1)) rfl ?_
          refine g_iconst (v := nI 0) (by decide +kernel : decode prog_3_method_19_code 50 = .ok (.iconst 0, 1)) (by decide) ?_
          refine g_callVV [.int (nI q), .int (nI 0)] (by decide +kernel : decode prog_3_method_19_code 51 = .ok (.invokevirtual 61, 3)) lk_Pk_61 (c_hide0 hP (o := q) (by omega)) rfl rfl rfl rfl (Nat.le_of_ble_eq_true rfl) (Nat.le_of_ble_eq_true rfl) (fun s51 h51 => ?_)
          obtain ⟨g51, x51⟩ := h51
          refine g_aload_n (by decide +kernel : decode prog_3_method_19_code 54 = .ok (.aload_n 0, 1)) rfl ?_
          refine g_iload_n (by decide +kernel : decode prog_3_method_19_code 55 = .ok (.iload_n 1, 1)) rfl ?_
          refine g_iconst (v := nI 1) (by decide +kernel : decode prog_3_method_19_code 56 = .ok (.iconst 1, 1)) (by decide) ?_
          refine g_callVV [.int (nI o), .int (nI 1)] (by decide +kernel : decode prog_3_method_19_code 57 = .ok (.invokevirtual 61, 3)) lk_Pk_61 (c_hide1 g51 (o := o) (by rw [nn_up (by omega)]; omega)) rfl rfl rfl rfl (Nat.le_of_ble_eq_true rfl) (Nat.le_of_ble_eq_true rfl) (fun s57 h57 => ?_)
          obtain ⟨g57, x57⟩ := h57
          have y57 : tn ((upd (upd f (19 + 6 * q + 4) (nI 0)) (19 + 6 * o + 4) (nI 1)) (19 + 6 * o + 5)) ≤ 99 := (g57.i.p (o := o) (by omega) 5).2
          refine g_aload_n (by decide +kernel : decode prog_3_method_19_code 60 = .ok (.aload_n 0, 1)) rfl ?_
          refine g_getR (by decide +kernel : decode prog_3_method_19_code 61 = .ok (.getfield 33, 3)) fl_Pk_33 rfl rfl ?_
          refine g_iload_n (by decide +kernel : decode prog_3_method_19_code 64 = .ok (.iload_n 3, 1)) rfl ?_
          refine g_iload_n (by decide +kernel : decode prog_3_method_19_code 65 = .ok (.iload_n 1, 1)) rfl ?_
          refine g_iastore (a := q) (by decide +kernel : decode prog_3_method_19_code 66 = .ok (.iastore, 1)) rfl rfl (by omega) (by decide) ?_
          have p67 := g57.u8 q (nI o)
          refine g_aload_n (by decide +kernel : decode prog_3_method_19_code 67 = .ok (.aload_n 0, 1)) rfl ?_
          refine g_getR (by decide +kernel : decode prog_3_method_19_code 68 = .ok (.getfield 30, 3)) fl_Pk_30 rfl rfl ?_
          refine g_iload_n (by decide +kernel : decode prog_3_method_19_code 71 = .ok (.iload_n 1, 1)) rfl ?_
          refine g_iaload (a := o) (by decide +kernel : decode prog_3_method_19_code 72 = .ok (.iaload, 1)) rfl rfl (by omega) (by decide) ?_
          refine g_top (w := nI (tn ((upd (upd f (19 + 6 * q + 4) (nI 0)) (19 + 6 * o + 4) (nI 1)) (19 + 6 * o + 5)))) ((p67.p5 (by omega)).trans (p67.i.p (o := o) (by omega) 5).1) ?_
          refine g_bipush (v := nI 99) (by decide +kernel : decode prog_3_method_19_code 73 = .ok (.bipush 99, 2)) (by decide) ?_
          refine g_icmp_geN (tgt := 88) (by decide +kernel : decode prog_3_method_19_code 75 = .ok (.if_icmp .ge 13, 3)) (by decide) (by omega) (by decide) (fun h75 => ?_) (fun h75 => ?_)
          · have e9 : r = some q := hr.symm.trans (findQ_yes (by omega) ⟨q18, h36, Int32.not_le.mp h45⟩)
            subst e9
            have e8 : seekF f o (some q) = (upd (upd f (19 + 6 * q + 4) (nI 0)) (19 + 6 * o + 4) (nI 1)) := by
              show fnd f o q = _
              unfold fnd
              dsimp only
              rw [fnd_B g57.i (by omega) (by omega), upd_self]
            have e7 : (s_up s57 8 q (nI o)) 8 = upd (σ 8) q (nI o) := by
              rw [s_up_k, x57, x51]
            refine g_vret hR (by decide +kernel : decode prog_3_method_19_code 88 = .ok (.return_, 1)) rfl ⟨rfl, ?_, hB.up (by omega) e7⟩
            rw [e8]
            exact p67
          · refine g_aload_n (by decide +kernel : decode prog_3_method_19_code 78 = .ok (.aload_n 0, 1)) rfl ?_
            refine g_getR (by decide +kernel : decode prog_3_method_19_code 79 = .ok (.getfield 30, 3)) fl_Pk_30 rfl rfl ?_
            refine g_iload_n (by decide +kernel : decode prog_3_method_19_code 82 = .ok (.iload_n 1, 1)) rfl ?_
            refine g_dup2 (by decide +kernel : decode prog_3_method_19_code 83 = .ok (.dup2, 1)) rfl rfl ?_
            refine g_iaload (a := o) (by decide +kernel : decode prog_3_method_19_code 84 = .ok (.iaload, 1)) rfl rfl (by omega) (by decide) ?_
            refine g_top (w := nI (tn ((upd (upd f (19 + 6 * q + 4) (nI 0)) (19 + 6 * o + 4) (nI 1)) (19 + 6 * o + 5)))) ((p67.p5 (by omega)).trans (p67.i.p (o := o) (by omega) 5).1) ?_
            refine g_iconst (v := nI 1) (by decide +kernel : decode prog_3_method_19_code 85 = .ok (.iconst 1, 1)) (by decide) ?_
            refine g_iaddN (by decide +kernel : decode prog_3_method_19_code 86 = .ok (.iadd, 1)) ?_
            refine g_iastore (a := o) (by decide +kernel : decode prog_3_method_19_code 87 = .ok (.iastore, 1)) rfl rfl (by omega) (by decide) ?_
            have p88 := p67.u5 (o := o) (v := (nI (tn ((upd (upd f (19 + 6 * q + 4) (nI 0)) (19 + 6 * o + 4) (nI 1)) (19 + 6 * o + 5)) + 1))) (Rng.of (show _ ≤ 99 by omega))
            have e9 : r = some q := hr.symm.trans (findQ_yes (by omega) ⟨q18, h36, Int32.not_le.mp h45⟩)
            subst e9
            have e8 : seekF f o (some q) = upd (upd (upd f (19 + 6 * q + 4) (nI 0)) (19 + 6 * o + 4) (nI 1)) (19 + 6 * o + 5) (nI (tn ((upd (upd f (19 + 6 * q + 4) (nI 0)) (19 + 6 * o + 4) (nI 1)) (19 + 6 * o + 5)) + 1)) := by
              show fnd f o q = _
              unfold fnd
              dsimp only
              rw [fnd_A g57.i (by omega) (by omega)]
            have e7 : (s_up (s_up s57 8 q (nI o)) 7 o (nI (tn ((upd (upd f (19 + 6 * q + 4) (nI 0)) (19 + 6 * o + 4) (nI 1)) (19 + 6 * o + 5)) + 1))) 8 = upd (σ 8) q (nI o) := by
              rw [s_up_n _ _ _ (by decide)]; rw [s_up_k, x57, x51]
            refine g_vret hR (by decide +kernel : decode prog_3_method_19_code 88 = .ok (.return_, 1)) rfl ⟨rfl, ?_, hB.up (by omega) e7⟩
            rw [e8]
            exact p88
    · have e18 := e18.symm; subst e18
      refine g_if_eqN (tgt := 89) (by decide +kernel : decode prog_3_method_19_code 21 = .ok (.ifCond .eq 68, 3)) (by decide) (by decide) (fun _ => ?_) (fun h => False.elim (by revert h; decide))
      refine g_iincN (n := 1) (L' := [some (.ref 0), some (.int (nI o)), some (.int (seesF f o)), some (.int (nI (q + 1)))]) (by decide +kernel : decode prog_3_method_19_code 89 = .ok (.iinc 3 1, 3)) rfl (by decide) (Nat.le_of_ble_eq_true rfl) rfl ?_
      refine g_goto (tgt := 8) (by decide +kernel : decode prog_3_method_19_code 92 = .ok (.goto (-84), 3)) (by decide) ?_
      exact ih (q + 1) (by omega) (by omega) ((findQ_no (by omega) (fun z => by first | exact q18 z.1 | exact h36 z.2.1 | exact absurd z.2.2 (Int32.not_lt.mpr h45))).symm.trans hr) hR
set_option maxRecDepth 20000 in
theorem c_findOne {σ : Store} {f : Row} (hP : RP σ f) {b : Row} (hB : RB σ b (nn f)) {o : Nat} (ho : o < nn f) : Ct ΛP mt_Pk_findOne 1 [.ref 0, .int (nI o)] σ (PV (fun σ' => RP σ' (seekF f o (findQ f o (nn f) 0)) ∧ RB σ' (seekB b o (findQ f o (nn f) 0)) (nn f))) := by
  refine Ct.of (by decide) (Nat.le_of_ble_eq_true rfl) (fun X hR => ?_)
  show G (ΛP, mt_Pk_findOne, 1) X σ [some (.ref 0), some (.int (nI o)), none, none] [] 0
  have hn8 := hP.n8
  refine g_aload_n (by decide +kernel : decode prog_3_method_19_code 0 = .ok (.aload_n 0, 1)) rfl ?_
  refine g_iload_n (by decide +kernel : decode prog_3_method_19_code 1 = .ok (.iload_n 1, 1)) rfl ?_
  refine g_callVI [.int (nI o)] (by decide +kernel : decode prog_3_method_19_code 2 = .ok (.invokevirtual 100, 3)) lk_Pk_100 (c_sees hP ho) rfl rfl rfl rfl (Nat.le_of_ble_eq_true rfl) (Nat.le_of_ble_eq_true rfl) (fun r2 s2 h2 => ?_)
  obtain ⟨rfl, e2⟩ := h2
  have e2 := e2.symm; subst e2
  refine g_istore_n (L' := [some (.ref 0), some (.int (nI o)), some (.int (seesF f o)), none]) (by decide +kernel : decode prog_3_method_19_code 5 = .ok (.istore_n 2, 1)) (Nat.le_of_ble_eq_true rfl) rfl ?_
  refine g_iconst (v := nI 0) (by decide +kernel : decode prog_3_method_19_code 6 = .ok (.iconst 0, 1)) (by decide) ?_
  refine g_istore_n (L' := [some (.ref 0), some (.int (nI o)), some (.int (seesF f o)), some (.int (nI 0))]) (by decide +kernel : decode prog_3_method_19_code 7 = .ok (.istore_n 3, 1)) (Nat.le_of_ble_eq_true rfl) rfl ?_
  exact c_find_lp hP hB ho (nn f + 1) 0 (Nat.zero_le _) (by omega) rfl hR
set_option maxRecDepth 20000 in
theorem c_goSeeking1 {σ : Store} {f : Row} (hP : RP σ f) {b : Row} (hB : RB σ b (nn f)) {o : Nat} (ho : o < nn f) : Ct ΛP mt_Pk_goSeeking 2 [.ref 0, .int (nI o), .int (nI 1)] σ (PV (fun σ' => RP σ' (seekF (go1 f o) o (seekQ f o true)) ∧ RB σ' (seekB b o (seekQ f o true)) (nn f))) := by
  refine Ct.of (by decide) (Nat.le_of_ble_eq_true rfl) (fun X hR => ?_)
  show G (ΛP, mt_Pk_goSeeking, 2) X σ [some (.ref 0), some (.int (nI o)), some (.int (nI 1))] [] 0
  have hn8 := hP.n8
  have hg := go1_inv hP.i ho
  refine g_aload_n (by decide +kernel : decode prog_3_method_18_code 0 = .ok (.aload_n 0, 1)) rfl ?_
  refine g_getR (by decide +kernel : decode prog_3_method_18_code 1 = .ok (.getfield 27, 3)) fl_Pk_27 rfl rfl ?_
  refine g_iload_n (by decide +kernel : decode prog_3_method_18_code 4 = .ok (.iload_n 1, 1)) rfl ?_
  refine g_aload_n (by decide +kernel : decode prog_3_method_18_code 5 = .ok (.aload_n 0, 1)) rfl ?_
  refine g_getR (by decide +kernel : decode prog_3_method_18_code 6 = .ok (.getfield 27, 3)) fl_Pk_27 rfl rfl ?_
  refine g_iload_n (by decide +kernel : decode prog_3_method_18_code 9 = .ok (.iload_n 1, 1)) rfl ?_
  refine g_iaload (a := o) (by decide +kernel : decode prog_3_method_18_code 10 = .ok (.iaload, 1)) rfl rfl (by omega) (by decide) ?_
  refine g_top (w := f (19 + 6 * o + 3)) (hP.p3 (by omega)) ?_
  refine g_aload_n (by decide +kernel : decode prog_3_method_18_code 11 = .ok (.aload_n 0, 1)) rfl ?_
  refine g_iload_n (by decide +kernel : decode prog_3_method_18_code 12 = .ok (.iload_n 1, 1)) rfl ?_
  refine g_callVI [.int (nI o)] (by decide +kernel : decode prog_3_method_18_code 13 = .ok (.invokevirtual 88, 3)) lk_Pk_88 (c_strides hP ho) rfl rfl rfl rfl (Nat.le_of_ble_eq_true rfl) (Nat.le_of_ble_eq_true rfl) (fun r13 s13 h13 => ?_)
  obtain ⟨rfl, e13⟩ := h13
  have e13 := e13.symm; subst e13
  refine g_iadd (by decide +kernel : decode prog_3_method_18_code 16 = .ok (.iadd, 1)) ?_
  refine g_bipush (v := nI 12) (by decide +kernel : decode prog_3_method_18_code 17 = .ok (.bipush 12, 2)) (by decide) ?_
  refine g_callSI [.int ((f (19 + 6 * o + 3)) + (stridesF f o)), .int (nI 12)] (by decide +kernel : decode prog_3_method_18_code 19 = .ok (.invokestatic 91, 3)) lk_Pk_91 (m_fm12 ΛP _ _) rfl rfl (Nat.le_of_ble_eq_true rfl) (Nat.le_of_ble_eq_true rfl) (fun r19 s19 h19 => ?_)
  obtain ⟨rfl, e19⟩ := h19
  have e19 := e19.symm; subst e19
  refine g_top (w := (f (19 + 6 * o + 3) + stridesF f o + nI 12) - (f (19 + 6 * o + 3) + stridesF f o + nI 12) / nI 12 * nI 12) (fmE_go hP.i ho) ?_
  refine g_iastore (a := o) (by decide +kernel : decode prog_3_method_18_code 22 = .ok (.iastore, 1)) rfl rfl (by omega) (by decide) ?_
  have p23 : RP _ (go1 f o) := hP.u3 (o := o) (v := (f (19 + 6 * o + 3) + stridesF f o + nI 12) - (f (19 + 6 * o + 3) + stridesF f o + nI 12) / nI 12 * nI 12) (go1_rng hP.i ho)
  refine g_iload_n (by decide +kernel : decode prog_3_method_18_code 23 = .ok (.iload_n 2, 1)) rfl ?_
  refine g_if_eqN (tgt := 32) (by decide +kernel : decode prog_3_method_18_code 24 = .ok (.ifCond .eq 8, 3)) (by decide) (by decide) (fun h => False.elim (by revert h; decide)) (fun _ => ?_)
  refine g_aload_n (by decide +kernel : decode prog_3_method_18_code 27 = .ok (.aload_n 0, 1)) rfl ?_
  refine g_iload_n (by decide +kernel : decode prog_3_method_18_code 28 = .ok (.iload_n 1, 1)) rfl ?_
  refine g_callVV [.int (nI o)] (by decide +kernel : decode prog_3_method_18_code 29 = .ok (.invokevirtual 97, 3)) lk_Pk_97 (c_findOne p23 (b := b) (o := o) (by rw [hg.2]; exact hB.cg (s_up_n _ _ _ (by decide))) (by rw [hg.2]; exact ho)) rfl rfl rfl rfl (Nat.le_of_ble_eq_true rfl) (Nat.le_of_ble_eq_true rfl) (fun s29 h29 => ?_)
  rw [hg.2] at h29
  exact g_vret hR (by decide +kernel : decode prog_3_method_18_code 32 = .ok (.return_, 1)) rfl ⟨rfl, h29⟩
set_option maxRecDepth 20000 in
theorem c_goSeeking0 {σ : Store} {f : Row} (hP : RP σ f) {b : Row} (hB : RB σ b (nn f)) {o : Nat} (ho : o < nn f) : Ct ΛP mt_Pk_goSeeking 2 [.ref 0, .int (nI o), .int (nI 0)] σ (PV (fun σ' => RP σ' (seekF (go1 f o) o (seekQ f o false)) ∧ RB σ' (seekB b o (seekQ f o false)) (nn f))) := by
  refine Ct.of (by decide) (Nat.le_of_ble_eq_true rfl) (fun X hR => ?_)
  show G (ΛP, mt_Pk_goSeeking, 2) X σ [some (.ref 0), some (.int (nI o)), some (.int (nI 0))] [] 0
  have hn8 := hP.n8
  have hg := go1_inv hP.i ho
  refine g_aload_n (by decide +kernel : decode prog_3_method_18_code 0 = .ok (.aload_n 0, 1)) rfl ?_
  refine g_getR (by decide +kernel : decode prog_3_method_18_code 1 = .ok (.getfield 27, 3)) fl_Pk_27 rfl rfl ?_
  refine g_iload_n (by decide +kernel : decode prog_3_method_18_code 4 = .ok (.iload_n 1, 1)) rfl ?_
  refine g_aload_n (by decide +kernel : decode prog_3_method_18_code 5 = .ok (.aload_n 0, 1)) rfl ?_
  refine g_getR (by decide +kernel : decode prog_3_method_18_code 6 = .ok (.getfield 27, 3)) fl_Pk_27 rfl rfl ?_
  refine g_iload_n (by decide +kernel : decode prog_3_method_18_code 9 = .ok (.iload_n 1, 1)) rfl ?_
  refine g_iaload (a := o) (by decide +kernel : decode prog_3_method_18_code 10 = .ok (.iaload, 1)) rfl rfl (by omega) (by decide) ?_
  refine g_top (w := f (19 + 6 * o + 3)) (hP.p3 (by omega)) ?_
  refine g_aload_n (by decide +kernel : decode prog_3_method_18_code 11 = .ok (.aload_n 0, 1)) rfl ?_
  refine g_iload_n (by decide +kernel : decode prog_3_method_18_code 12 = .ok (.iload_n 1, 1)) rfl ?_
  refine g_callVI [.int (nI o)] (by decide +kernel : decode prog_3_method_18_code 13 = .ok (.invokevirtual 88, 3)) lk_Pk_88 (c_strides hP ho) rfl rfl rfl rfl (Nat.le_of_ble_eq_true rfl) (Nat.le_of_ble_eq_true rfl) (fun r13 s13 h13 => ?_)
  obtain ⟨rfl, e13⟩ := h13
  have e13 := e13.symm; subst e13
  refine g_iadd (by decide +kernel : decode prog_3_method_18_code 16 = .ok (.iadd, 1)) ?_
  refine g_bipush (v := nI 12) (by decide +kernel : decode prog_3_method_18_code 17 = .ok (.bipush 12, 2)) (by decide) ?_
  refine g_callSI [.int ((f (19 + 6 * o + 3)) + (stridesF f o)), .int (nI 12)] (by decide +kernel : decode prog_3_method_18_code 19 = .ok (.invokestatic 91, 3)) lk_Pk_91 (m_fm12 ΛP _ _) rfl rfl (Nat.le_of_ble_eq_true rfl) (Nat.le_of_ble_eq_true rfl) (fun r19 s19 h19 => ?_)
  obtain ⟨rfl, e19⟩ := h19
  have e19 := e19.symm; subst e19
  refine g_top (w := (f (19 + 6 * o + 3) + stridesF f o + nI 12) - (f (19 + 6 * o + 3) + stridesF f o + nI 12) / nI 12 * nI 12) (fmE_go hP.i ho) ?_
  refine g_iastore (a := o) (by decide +kernel : decode prog_3_method_18_code 22 = .ok (.iastore, 1)) rfl rfl (by omega) (by decide) ?_
  have p23 : RP _ (go1 f o) := hP.u3 (o := o) (v := (f (19 + 6 * o + 3) + stridesF f o + nI 12) - (f (19 + 6 * o + 3) + stridesF f o + nI 12) / nI 12 * nI 12) (go1_rng hP.i ho)
  refine g_iload_n (by decide +kernel : decode prog_3_method_18_code 23 = .ok (.iload_n 2, 1)) rfl ?_
  refine g_if_eqN (tgt := 32) (by decide +kernel : decode prog_3_method_18_code 24 = .ok (.ifCond .eq 8, 3)) (by decide) (by decide) (fun _ => ?_) (fun h => False.elim (by revert h; decide))
  exact g_vret hR (by decide +kernel : decode prog_3_method_18_code 32 = .ok (.return_, 1)) rfl ⟨rfl, p23, hB.cg (s_up_n _ _ _ (by decide))⟩
theorem nbit : ∀ h : Fin 256, ∀ k : Fin 8, (nI h.val ^^^ (-1)) >>> (nI k.val &&& 31) &&& nI 1 = nI (if h.val.testBit k.val then 0 else 1) := by decide +kernel
theorem seekN_h {m h : Nat} {g b : Row} {k : Nat} (e : h.testBit k = true) : seekN m h g b (k + 1) = seekN m h g b k := by
  show (if h.testBit k = true then _ else _) = _
  rw [if_pos e]
theorem seekN_s {m h : Nat} {g b : Row} {k : Nat} (e : h.testBit k = false) : seekN m h g b (k + 1) = (seekF (go1 (seekN m h g b k).1 k) k (seekQ (seekN m h g b k).1 k (m.testBit k)), seekB (seekN m h g b k).2 k (seekQ (seekN m h g b k).1 k (m.testBit k))) := by
  show (if h.testBit k = true then _ else _) = _
  rw [if_neg (by rw [e]; decide)]
set_option maxRecDepth 20000 in
theorem c_year2 {X : CX} {g b : Row} (hI : Inv g) {m h : Nat} (hm : m < 256) (hh : h < 256) : ∀ (b9 k : Nat) (σ : Store), RP σ (seekN m h g b k).1 → RB σ (seekN m h g b k).2 (nn g) → k ≤ nn g → nn g - k < b9 → Rt (ΛP, mt_Pk_passYear, 3) (PV (fun σ' => RP σ' (upd (seekN m h g b (nn g)).1 1 ((seekN m h g b (nn g)).1 1 + nI 1)) ∧ RB σ' (seekN m h g b (nn g)).2 (nn g))) X → G (ΛP, mt_Pk_passYear, 3) X σ [some (.ref 0), some (.int (nI m)), some (.int (nI h ^^^ (-1))), some (.int (nI k))] [] 37 := by
  have hn8 := hI.n.2
  intro b9
  induction b9 with
  | zero => intro k σ hP hB hk hb hR; omega
  | succ b9 ih =>
  intro k σ hP hB hk hb hR
  have hN := (seekN_inv (m := m) (hh := h) (b := b) hI k hk).2
  refine g_iload_n (by decide +kernel : decode prog_3_method_16_code 37 = .ok (.iload_n 3, 1)) rfl ?_
  refine g_aload_n (by decide +kernel : decode prog_3_method_16_code 38 = .ok (.aload_n 0, 1)) rfl ?_
  refine g_getI (by decide +kernel : decode prog_3_method_16_code 39 = .ok (.getfield 46, 3)) fl_Pk_46.get rfl rfl ?_
  refine g_top (w := nI (nn ((seekN m h g b k).1))) (hP.n) ?_
  refine g_icmp_geN (tgt := 77) (by decide +kernel : decode prog_3_method_16_code 42 = .ok (.if_icmp .ge 35, 3)) (by decide) (by first | exact ite01_lt | exact ite10_lt | omega) (by first | exact ite01_lt | exact ite10_lt | omega) (fun h42 => ?_) (fun h42 => ?_)
  · refine g_aload_n (by decide +kernel : decode prog_3_method_16_code 77 = .ok (.aload_n 0, 1)) rfl ?_
    refine g_dup (by decide +kernel : decode prog_3_method_16_code 78 = .ok (.dup, 1)) rfl ?_
    refine g_getI (by decide +kernel : decode prog_3_method_16_code 79 = .ok (.getfield 52, 3)) fl_Pk_52.get rfl rfl ?_
    refine g_top (w := ((seekN m h g b k).1) 1) (hP.y) ?_
    refine g_iconst (v := nI 1) (by decide +kernel : decode prog_3_method_16_code 82 = .ok (.iconst 1, 1)) (by decide) ?_
    refine g_iadd (by decide +kernel : decode prog_3_method_16_code 83 = .ok (.iadd, 1)) ?_
    refine g_putI (by decide +kernel : decode prog_3_method_16_code 84 = .ok (.putfield 52, 3)) fl_Pk_52 rfl rfl ?_
    have p87 := hP.uy ((((seekN m h g b k).1) 1) + (nI 1))
    obtain rfl : k = nn g := by omega
    exact g_vret hR (by decide +kernel : decode prog_3_method_16_code 87 = .ok (.return_, 1)) rfl ⟨rfl, p87, hB.cg (s_up_n _ _ _ (by decide))⟩
  · refine g_iload_n (by decide +kernel : decode prog_3_method_16_code 45 = .ok (.iload_n 2, 1)) rfl ?_
    refine g_iload_n (by decide +kernel : decode prog_3_method_16_code 46 = .ok (.iload_n 3, 1)) rfl ?_
    refine g_ishr (by decide +kernel : decode prog_3_method_16_code 47 = .ok (.ishr, 1)) ?_
    refine g_iconst (v := nI 1) (by decide +kernel : decode prog_3_method_16_code 48 = .ok (.iconst 1, 1)) (by decide) ?_
    refine g_iand (by decide +kernel : decode prog_3_method_16_code 49 = .ok (.iand, 1)) ?_
    refine g_top (w := nI (if h.testBit k then 0 else 1)) (nbit ⟨h, hh⟩ ⟨k, by omega⟩) ?_
    refine g_if_eqN (tgt := 71) (by decide +kernel : decode prog_3_method_16_code 50 = .ok (.ifCond .eq 21, 3)) (by decide) (by first | exact ite01_lt | exact ite10_lt | omega) (fun h50 => ?_) (fun h50 => ?_)
    · refine g_iincN (n := 1) (L' := [some (.ref 0), some (.int (nI m)), some (.int (nI h ^^^ (-1))), some (.int (nI (k + 1)))]) (by decide +kernel : decode prog_3_method_16_code 71 = .ok (.iinc 3 1, 3)) rfl (by decide) (Nat.le_of_ble_eq_true rfl) rfl ?_
      refine g_goto (tgt := 37) (by decide +kernel : decode prog_3_method_16_code 74 = .ok (.goto (-37), 3)) (by decide) ?_
      have e9 : seekN m h g b (k + 1) = seekN m h g b k := seekN_h (ite10_eq0 h50)
      exact ih (k + 1) _ (by rw [e9]; exact hP) (by rw [e9]; exact hB) (by omega) (by omega) hR
    · refine g_aload_n (by decide +kernel : decode prog_3_method_16_code 53 = .ok (.aload_n 0, 1)) rfl ?_
      refine g_iload_n (by decide +kernel : decode prog_3_method_16_code 54 = .ok (.iload_n 3, 1)) rfl ?_
      refine g_iload_n (by decide +kernel : decode prog_3_method_16_code 55 = .ok (.iload_n 1, 1)) rfl ?_
      refine g_iload_n (by decide +kernel : decode prog_3_method_16_code 56 = .ok (.iload_n 3, 1)) rfl ?_
      refine g_ishr (by decide +kernel : decode prog_3_method_16_code 57 = .ok (.ishr, 1)) ?_
      refine g_iconst (v := nI 1) (by decide +kernel : decode prog_3_method_16_code 58 = .ok (.iconst 1, 1)) (by decide) ?_
      refine g_iand (by decide +kernel : decode prog_3_method_16_code 59 = .ok (.iand, 1)) ?_
      refine g_top (w := nI (if m.testBit k then 1 else 0)) (nI_bit (by omega) (by omega)) ?_
      refine g_if_eqN (tgt := 67) (by decide +kernel : decode prog_3_method_16_code 60 = .ok (.ifCond .eq 7, 3)) (by decide) (by first | exact ite01_lt | exact ite10_lt | omega) (fun h60 => ?_) (fun h60 => ?_)
      · refine g_iconst (v := nI 0) (by decide +kernel : decode prog_3_method_16_code 67 = .ok (.iconst 0, 1)) (by decide) ?_
        refine g_callVV [.int (nI k), .int (nI 0)] (by decide +kernel : decode prog_3_method_16_code 68 = .ok (.invokevirtual 85, 3)) lk_Pk_85 (c_goSeeking0 hP (b := (seekN m h g b k).2) (o := k) (by rw [hN]; exact hB) (by omega)) rfl rfl rfl rfl (Nat.le_of_ble_eq_true rfl) (Nat.le_of_ble_eq_true rfl) (fun s68 h68 => ?_)
        refine g_iincN (n := 1) (L' := [some (.ref 0), some (.int (nI m)), some (.int (nI h ^^^ (-1))), some (.int (nI (k + 1)))]) (by decide +kernel : decode prog_3_method_16_code 71 = .ok (.iinc 3 1, 3)) rfl (by decide) (Nat.le_of_ble_eq_true rfl) rfl ?_
        refine g_goto (tgt := 37) (by decide +kernel : decode prog_3_method_16_code 74 = .ok (.goto (-37), 3)) (by decide) ?_
        have e9 := seekN_s (m := m) (h := h) (g := g) (b := b) (k := k) (ite10_ne0 h50)
        rw [ite_eq0 h60] at e9
        obtain ⟨g1, g2⟩ := h68
        exact ih (k + 1) _ (by rw [e9]; exact g1) (by rw [e9]; rw [hN] at g2; exact g2) (by omega) (by omega) hR
      · refine g_iconst (v := nI 1) (by decide +kernel : decode prog_3_method_16_code 63 = .ok (.iconst 1, 1)) (by decide) ?_
        refine g_goto (tgt := 68) (by decide +kernel : decode prog_3_method_16_code 64 = .ok (.goto 4, 3)) (by decide) ?_
        refine g_callVV [.int (nI k), .int (nI 1)] (by decide +kernel : decode prog_3_method_16_code 68 = .ok (.invokevirtual 85, 3)) lk_Pk_85 (c_goSeeking1 hP (b := (seekN m h g b k).2) (o := k) (by rw [hN]; exact hB) (by omega)) rfl rfl rfl rfl (Nat.le_of_ble_eq_true rfl) (Nat.le_of_ble_eq_true rfl) (fun s68 h68 => ?_)
        refine g_iincN (n := 1) (L' := [some (.ref 0), some (.int (nI m)), some (.int (nI h ^^^ (-1))), some (.int (nI (k + 1)))]) (by decide +kernel : decode prog_3_method_16_code 71 = .ok (.iinc 3 1, 3)) rfl (by decide) (Nat.le_of_ble_eq_true rfl) rfl ?_
        refine g_goto (tgt := 37) (by decide +kernel : decode prog_3_method_16_code 74 = .ok (.goto (-37), 3)) (by decide) ?_
        have e9 := seekN_s (m := m) (h := h) (g := g) (b := b) (k := k) (ite10_ne0 h50)
        rw [ite_ne0 h60] at e9
        obtain ⟨g1, g2⟩ := h68
        exact ih (k + 1) _ (by rw [e9]; exact g1) (by rw [e9]; rw [hN] at g2; exact g2) (by omega) (by omega) hR
set_option maxRecDepth 20000 in
theorem c_year1 {X : CX} {g b : Row} {m : Nat} (hm : m < 256) : ∀ (b9 k : Nat) (σ : Store), RP σ g → (∀ q, q < k → σ 8 q = -3) → k ≤ nn g → nn g - k < b9 → Rt (ΛP, mt_Pk_passYear, 3) (PV (fun σ' => RP σ' (upd (seekN m (msk g (nn g)) g (rstB b (nn g)) (nn g)).1 1 ((seekN m (msk g (nn g)) g (rstB b (nn g)) (nn g)).1 1 + nI 1)) ∧ RB σ' (seekN m (msk g (nn g)) g (rstB b (nn g)) (nn g)).2 (nn g))) X → G (ΛP, mt_Pk_passYear, 3) X σ [some (.ref 0), some (.int (nI m)), some (.int (nI k)), none] [] 6 := by
  intro b9
  induction b9 with
  | zero => intro k σ hP h8 hk hb hR; omega
  | succ b9 ih =>
  intro k σ hP h8 hk hb hR
  have hn8 := hP.n8
  refine g_iload_n (by decide +kernel : decode prog_3_method_16_code 6 = .ok (.iload_n 2, 1)) rfl ?_
  refine g_aload_n (by decide +kernel : decode prog_3_method_16_code 7 = .ok (.aload_n 0, 1)) rfl ?_
  refine g_getI (by decide +kernel : decode prog_3_method_16_code 8 = .ok (.getfield 46, 3)) fl_Pk_46.get rfl rfl ?_
  refine g_top (w := nI (nn g)) (hP.n) ?_
  refine g_icmp_geN (tgt := 28) (by decide +kernel : decode prog_3_method_16_code 11 = .ok (.if_icmp .ge 17, 3)) (by decide) (by omega) (by omega) (fun h11 => ?_) (fun h11 => ?_)
  · refine g_aload_n (by decide +kernel : decode prog_3_method_16_code 28 = .ok (.aload_n 0, 1)) rfl ?_
    refine g_getI (by decide +kernel : decode prog_3_method_16_code 29 = .ok (.getfield 49, 3)) fl_Pk_49.get rfl rfl ?_
    refine g_top (w := nI (msk g (nn g))) (hP.m) ?_
    refine g_iconst (v := (-1)) (by decide +kernel : decode prog_3_method_16_code 32 = .ok (.iconst (-1), 1)) (by decide) ?_
    refine g_ixor (by decide +kernel : decode prog_3_method_16_code 33 = .ok (.ixor, 1)) ?_
    refine g_istore_n (L' := [some (.ref 0), some (.int (nI m)), some (.int ((nI (msk g (nn g))) ^^^ (-1))), none]) (by decide +kernel : decode prog_3_method_16_code 34 = .ok (.istore_n 2, 1)) (Nat.le_of_ble_eq_true rfl) rfl ?_
    refine g_iconst (v := nI 0) (by decide +kernel : decode prog_3_method_16_code 35 = .ok (.iconst 0, 1)) (by decide) ?_
    refine g_istore_n (L' := [some (.ref 0), some (.int (nI m)), some (.int ((nI (msk g (nn g))) ^^^ (-1))), some (.int (nI 0))]) (by decide +kernel : decode prog_3_method_16_code 36 = .ok (.istore_n 3, 1)) (Nat.le_of_ble_eq_true rfl) rfl ?_
    obtain rfl : k = nn g := by omega
    exact c_year2 hP.i hm (inv_m256 hP.i) (nn g + 1) 0 σ hP (RB.rst h8) (Nat.zero_le _) (by omega) hR
  · refine g_aload_n (by decide +kernel : decode prog_3_method_16_code 14 = .ok (.aload_n 0, 1)) rfl ?_
    refine g_getR (by decide +kernel : decode prog_3_method_16_code 15 = .ok (.getfield 33, 3)) fl_Pk_33 rfl rfl ?_
    refine g_iload_n (by decide +kernel : decode prog_3_method_16_code 18 = .ok (.iload_n 2, 1)) rfl ?_
    refine g_bipush (v := (-3)) (by decide +kernel : decode prog_3_method_16_code 19 = .ok (.bipush (-3), 2)) (by decide) ?_
    refine g_iastore (a := k) (by decide +kernel : decode prog_3_method_16_code 21 = .ok (.iastore, 1)) rfl rfl (by omega) (by decide) ?_
    have p22 := hP.u8 k (-3)
    refine g_iincN (n := 1) (L' := [some (.ref 0), some (.int (nI m)), some (.int (nI (k + 1))), none]) (by decide +kernel : decode prog_3_method_16_code 22 = .ok (.iinc 2 1, 3)) rfl (by decide) (Nat.le_of_ble_eq_true rfl) rfl ?_
    refine g_goto (tgt := 6) (by decide +kernel : decode prog_3_method_16_code 25 = .ok (.goto (-19), 3)) (by decide) ?_
    exact ih (k + 1) _ p22 (fun q hq => by rw [s_up_k]; by_cases e : q = k; (subst e; exact upd_s); (rw [upd_n e]; exact h8 q (by omega))) (by omega) (by omega) hR
set_option maxRecDepth 20000 in
theorem c_passYear {σ : Store} {f : Row} (hP : RP σ f) {b : Row} {m : Nat} (hm : m < 256) : Ct ΛP mt_Pk_passYear 3 [.ref 0, .int (nI m)] σ (PV (fun σ' => RP σ' (yr m f b).1 ∧ RB σ' (yr m f b).2 (nn f))) := by
  refine Ct.of (by decide) (Nat.le_of_ble_eq_true rfl) (fun X hR => ?_)
  show G (ΛP, mt_Pk_passYear, 3) X σ [some (.ref 0), some (.int (nI m)), none, none] [] 0
  have hn8 := hP.n8
  have hN := (growN_inv hP.i (nn f) (Nat.le_refl _)).2
  refine g_aload_n (by decide +kernel : decode prog_3_method_16_code 0 = .ok (.aload_n 0, 1)) rfl ?_
  refine g_callVV [] (by decide +kernel : decode prog_3_method_16_code 1 = .ok (.invokevirtual 82, 3)) lk_Pk_82 (c_growOlder hP) rfl rfl rfl rfl (Nat.le_of_ble_eq_true rfl) (Nat.le_of_ble_eq_true rfl) (fun s1 h1 => ?_)
  refine g_iconst (v := nI 0) (by decide +kernel : decode prog_3_method_16_code 4 = .ok (.iconst 0, 1)) (by decide) ?_
  refine g_istore_n (L' := [some (.ref 0), some (.int (nI m)), some (.int (nI 0)), none]) (by decide +kernel : decode prog_3_method_16_code 5 = .ok (.istore_n 2, 1)) (Nat.le_of_ble_eq_true rfl) rfl ?_
  have hR2 := hR
  unfold yr at hR2
  dsimp only at hR2
  exact c_year1 (g := growN f (nn f)) (b := b) hm (nn (growN f (nn f)) + 1) 0 s1 h1 (fun q hq => absurd hq (Nat.not_lt_zero _)) (Nat.zero_le _) (by omega) (by rw [hN]; exact hR2)
