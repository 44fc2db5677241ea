/-! THE PROGRAM: years, draws, one more of the people, as at first, become -/
set_option maxRecDepth 20000 in
theorem c_years_lp {X : CX} {f : Row} (hI : Inv f) {m n : Nat} (hm : m < 256) (hn : n < 2 ^ 31) : ∀ (b9 k : Nat) (σ : Store), RP σ (yN m f k) → k ≤ n → n - k < b9 → Rt (ΛP, mt_Pk_passYears, 4) (PV (fun σ' => RP σ' (yN m f n))) X → G (ΛP, mt_Pk_passYears, 4) X σ [some (.ref 0), some (.int (nI n)), some (.int (nI m)), some (.int (nI k))] [] 2 := by
  intro b9
  induction b9 with
  | zero => intro k σ hP hk hb hR; omega
  | succ b9 ih =>
  intro k σ hP hk hb hR
  refine g_iload_n (by decide +kernel : decode prog_3_method_15_code 2 = .ok (.iload_n 3, 1)) rfl ?_
  refine g_iload_n (by decide +kernel : decode prog_3_method_15_code 3 = .ok (.iload_n 1, 1)) rfl ?_
  refine g_icmp_geN (tgt := 18) (by decide +kernel : decode prog_3_method_15_code 4 = .ok (.if_icmp .ge 14, 3)) (by decide) (by omega) (by omega) (fun h4 => ?_) (fun h4 => ?_)
  · obtain rfl : k = n := by omega
    exact g_vret hR (by decide +kernel : decode prog_3_method_15_code 18 = .ok (.return_, 1)) rfl ⟨rfl, hP⟩
  · refine g_aload_n (by decide +kernel : decode prog_3_method_15_code 7 = .ok (.aload_n 0, 1)) rfl ?_
    refine g_iload_n (by decide +kernel : decode prog_3_method_15_code 8 = .ok (.iload_n 2, 1)) rfl ?_
    refine g_callVV [.int (nI m)] (by decide +kernel : decode prog_3_method_15_code 9 = .ok (.invokevirtual 78, 3)) lk_Pk_78 (c_passYear hP (b := fun _ => 0) hm) rfl rfl rfl rfl (Nat.le_of_ble_eq_true rfl) (Nat.le_of_ble_eq_true rfl) (fun s9 h9 => ?_)
    obtain ⟨g9, _⟩ := h9
    refine g_iincN (n := 1) (L' := [some (.ref 0), some (.int (nI n)), some (.int (nI m)), some (.int (nI (k + 1)))]) (by decide +kernel : decode prog_3_method_15_code 12 = .ok (.iinc 3 1, 3)) rfl (by decide) (Nat.le_of_ble_eq_true rfl) rfl ?_
    refine g_goto (tgt := 2) (by decide +kernel : decode prog_3_method_15_code 15 = .ok (.goto (-13), 3)) (by decide) ?_
    exact ih (k + 1) _ g9 (by omega) (by omega) hR
set_option maxRecDepth 20000 in
theorem c_passYears {σ : Store} {f : Row} (hP : RP σ f) {m n : Nat} (hm : m < 256) (hn : n < 2 ^ 31) : Ct ΛP mt_Pk_passYears 4 [.ref 0, .int (nI n), .int (nI m)] σ (PV (fun σ' => RP σ' (yN m f n))) := by
  refine Ct.of (by decide) (Nat.le_of_ble_eq_true rfl) (fun X hR => ?_)
  show G (ΛP, mt_Pk_passYears, 4) X σ [some (.ref 0), some (.int (nI n)), some (.int (nI m)), none] [] 0
  have hn8 := hP.n8
  refine g_iconst (v := nI 0) (by decide +kernel : decode prog_3_method_15_code 0 = .ok (.iconst 0, 1)) (by decide) ?_
  refine g_istore_n (L' := [some (.ref 0), some (.int (nI n)), some (.int (nI m)), some (.int (nI 0))]) (by decide +kernel : decode prog_3_method_15_code 1 = .ok (.istore_n 3, 1)) (Nat.le_of_ble_eq_true rfl) rfl ?_
  exact c_years_lp hP.i hm hn (n + 1) 0 σ hP (Nat.zero_le _) (by omega) hR
set_option maxRecDepth 20000 in
theorem c_drawn {σ : Store} {f : Row} (hP : RP σ f)  : Ct ΛP mt_Pk_drawn 0 [.ref 0] σ (PI (fun r σ' => r = sh16 (drw (f 2)) ∧ RP σ' (upd f 2 (drw (f 2))))) := by
  refine Ct.of (by decide) (Nat.le_of_ble_eq_true rfl) (fun X hR => ?_)
  show G (ΛP, mt_Pk_drawn, 0) X σ [some (.ref 0)] [] 0
  have hn8 := hP.n8
  refine g_aload_n (by decide +kernel : decode prog_3_method_21_code 0 = .ok (.aload_n 0, 1)) rfl ?_
  refine g_aload_n (by decide +kernel : decode prog_3_method_21_code 1 = .ok (.aload_n 0, 1)) rfl ?_
  refine g_getI (by decide +kernel : decode prog_3_method_21_code 2 = .ok (.getfield 36, 3)) fl_Pk_36.get rfl rfl ?_
  refine g_top (w := f 2) (hP.z) ?_
  refine g_ldc (by decide +kernel : decode prog_3_method_21_code 5 = .ok (.ldc 110, 2)) kc_Pk_110 ?_
  refine g_imul (by decide +kernel : decode prog_3_method_21_code 7 = .ok (.imul, 1)) ?_
  refine g_sipush (v := nI 12345) (by decide +kernel : decode prog_3_method_21_code 8 = .ok (.sipush 12345, 3)) (by decide) ?_
  refine g_iadd (by decide +kernel : decode prog_3_method_21_code 11 = .ok (.iadd, 1)) ?_
  refine g_putI (by decide +kernel : decode prog_3_method_21_code 12 = .ok (.putfield 36, 3)) fl_Pk_36 rfl rfl ?_
  have p15 := hP.uz (((f 2) * 1103515245) + (nI 12345))
  refine g_aload_n (by decide +kernel : decode prog_3_method_21_code 15 = .ok (.aload_n 0, 1)) rfl ?_
  refine g_getI (by decide +kernel : decode prog_3_method_21_code 16 = .ok (.getfield 36, 3)) fl_Pk_36.get rfl rfl ?_
  refine g_bipush (v := nI 16) (by decide +kernel : decode prog_3_method_21_code 19 = .ok (.bipush 16, 2)) (by decide) ?_
  refine g_iushr (by decide +kernel : decode prog_3_method_21_code 21 = .ok (.iushr, 1)) ?_
  exact g_iret hR (by decide +kernel : decode prog_3_method_21_code 22 = .ok (.ireturn, 1)) rfl ⟨_, rfl, ⟨rfl, p15⟩⟩
theorem nh0 {f : Row} (hI : Inv f) {k : Nat} (hk : k < nn f) (h : ¬ f (19 + 6 * k + 4) = nI 1) : f (19 + 6 * k + 4) = nI 0 := by
  have hp := hI.p hk 4
  have h1 : tn (f (19 + 6 * k + 4)) ≤ 1 := hp.2
  rcases (show tn (f (19 + 6 * k + 4)) = 0 ∨ tn (f (19 + 6 * k + 4)) = 1 by omega) with e | e
  · rw [hp.1, e]
  · exact absurd (by rw [hp.1, e]) h
set_option maxRecDepth 20000 in
theorem c_passYearByDraws {σ : Store} {f : Row} (hP : RP σ f)  : Ct ΛP mt_Pk_passYearByDraws 4 [.ref 0] σ (PV (fun σ' => RP σ' (yearT f))) := by
  refine Ct.of (by decide) (Nat.le_of_ble_eq_true rfl) (fun X hR => ?_)
  show G (ΛP, mt_Pk_passYearByDraws, 4) X σ [some (.ref 0), none] [] 0
  have hn8 := hP.n8
  refine g_aload_n (by decide +kernel : decode prog_3_method_20_code 0 = .ok (.aload_n 0, 1)) rfl ?_
  refine g_getI (by decide +kernel : decode prog_3_method_20_code 1 = .ok (.getfield 46, 3)) fl_Pk_46.get rfl rfl ?_
  refine g_top (w := nI (nn f)) (hP.n) ?_
  refine g_if_leN (tgt := 51) (by decide +kernel : decode prog_3_method_20_code 4 = .ok (.ifCond .le 47, 3)) (by decide) (by omega) (fun h4 => ?_) (fun h4 => ?_)
  · refine g_aload_n (by decide +kernel : decode prog_3_method_20_code 51 = .ok (.aload_n 0, 1)) rfl ?_
    refine g_sipush (v := nI 255) (by decide +kernel : decode prog_3_method_20_code 52 = .ok (.sipush 255, 3)) (by decide) ?_
    refine g_callVV [.int (nI 255)] (by decide +kernel : decode prog_3_method_20_code 55 = .ok (.invokevirtual 78, 3)) lk_Pk_78 (c_passYear hP (b := fun _ => 0) (m := 255) (by decide)) rfl rfl rfl rfl (Nat.le_of_ble_eq_true rfl) (Nat.le_of_ble_eq_true rfl) (fun s55 h55 => ?_)
    obtain ⟨g55, _⟩ := h55
    have e55 : dyr f = f := by unfold dyr; rw [if_pos (by omega)]
    refine g_vret hR (by decide +kernel : decode prog_3_method_20_code 58 = .ok (.return_, 1)) rfl ⟨rfl, ?_⟩
    show RP s55 (yr 255 (dyr f) (fun _ => 0)).1
    rw [e55]
    exact g55
  · refine g_aload_n (by decide +kernel : decode prog_3_method_20_code 7 = .ok (.aload_n 0, 1)) rfl ?_
    refine g_callVI [] (by decide +kernel : decode prog_3_method_20_code 8 = .ok (.invokevirtual 106, 3)) lk_Pk_106 (c_drawn hP) rfl rfl rfl rfl (Nat.le_of_ble_eq_true rfl) (Nat.le_of_ble_eq_true rfl) (fun r8 s8 h8 => ?_)
    obtain ⟨rfl, g8⟩ := h8
    refine g_top (w := nI (tn (sh16 (drw (f 2))))) (sh16_n _).1 ?_
    have u8 := (sh16_n (drw (f 2))).2
    refine g_aload_n (by decide +kernel : decode prog_3_method_20_code 11 = .ok (.aload_n 0, 1)) rfl ?_
    refine g_getI (by decide +kernel : decode prog_3_method_20_code 12 = .ok (.getfield 46, 3)) fl_Pk_46.get rfl rfl ?_
    refine g_top (w := nI (nn f)) (g8.n.trans (by rw [nn_up (by decide)])) ?_
    refine g_iremN (by decide +kernel : decode prog_3_method_20_code 15 = .ok (.irem, 1)) (by omega) (by omega) (by omega) ?_
    obtain ⟨o, eo, ho⟩ : ∃ o, (tn (sh16 (drw (f 2)))) % (nn f) = o ∧ o < nn f := ⟨_, rfl, Nat.mod_lt _ (by omega)⟩
    rw [eo]
    have hN : nn (upd (upd f 2 (drw (f 2))) 2 (drw (drw (f 2)))) = nn f := by rw [nn_up (by decide), nn_up (by decide)]
    refine g_istore_n (L' := [some (.ref 0), some (.int (nI o))]) (by decide +kernel : decode prog_3_method_20_code 16 = .ok (.istore_n 1, 1)) (Nat.le_of_ble_eq_true rfl) rfl ?_
    refine g_aload_n (by decide +kernel : decode prog_3_method_20_code 17 = .ok (.aload_n 0, 1)) rfl ?_
    refine g_callVI [] (by decide +kernel : decode prog_3_method_20_code 18 = .ok (.invokevirtual 106, 3)) lk_Pk_106 (c_drawn g8) rfl rfl rfl rfl (Nat.le_of_ble_eq_true rfl) (Nat.le_of_ble_eq_true rfl) (fun r18 s18 h18 => ?_)
    obtain ⟨rfl, g18⟩ := h18
    rw [upd_s] at g18
    refine g_top (w := nI (tn (sh16 (drw (drw (f 2)))))) (by rw [upd_s]; exact (sh16_n _).1) ?_
    have u18 := (sh16_n (drw (drw (f 2)))).2
    have u17 : tn ((upd (upd f 2 (drw (f 2))) 2 (drw (drw (f 2)))) 6) ≤ 99 := (g18.i.2.2.1 3 (by decide)).e.2
    have u16 : (upd (upd f 2 (drw (f 2))) 2 (drw (drw (f 2)))) 6 = nI (tn ((upd (upd f 2 (drw (f 2))) 2 (drw (drw (f 2)))) 6)) := (g18.i.2.2.1 3 (by decide)).e.1
    refine g_bipush (v := nI 100) (by decide +kernel : decode prog_3_method_20_code 21 = .ok (.bipush 100, 2)) (by decide) ?_
    refine g_iremN (by decide +kernel : decode prog_3_method_20_code 23 = .ok (.irem, 1)) (by omega) (by decide) (by decide) ?_
    refine g_aload_n (by decide +kernel : decode prog_3_method_20_code 24 = .ok (.aload_n 0, 1)) rfl ?_
    refine g_getR (by decide +kernel : decode prog_3_method_20_code 25 = .ok (.getfield 9, 3)) fl_Pk_9 rfl rfl ?_
    refine g_iconst (v := nI 3) (by decide +kernel : decode prog_3_method_20_code 28 = .ok (.iconst 3, 1)) (by decide) ?_
    refine g_iaload (a := 3) (by decide +kernel : decode prog_3_method_20_code 29 = .ok (.iaload, 1)) rfl rfl (by decide) (by decide) ?_
    refine g_top (w := nI (tn ((upd (upd f 2 (drw (f 2))) 2 (drw (drw (f 2)))) 6))) ((g18.l (i := 3) (by decide)).trans (g18.i.2.2.1 3 (by decide)).e.1) ?_
    refine g_icmp_geN (tgt := 51) (by decide +kernel : decode prog_3_method_20_code 30 = .ok (.if_icmp .ge 21, 3)) (by decide) (by omega) (by omega) (fun h30 => ?_) (fun h30 => ?_)
    · refine g_aload_n (by decide +kernel : decode prog_3_method_20_code 51 = .ok (.aload_n 0, 1)) rfl ?_
      refine g_sipush (v := nI 255) (by decide +kernel : decode prog_3_method_20_code 52 = .ok (.sipush 255, 3)) (by decide) ?_
      refine g_callVV [.int (nI 255)] (by decide +kernel : decode prog_3_method_20_code 55 = .ok (.invokevirtual 78, 3)) lk_Pk_78 (c_passYear g18 (b := fun _ => 0) (m := 255) (by decide)) rfl rfl rfl rfl (Nat.le_of_ble_eq_true rfl) (Nat.le_of_ble_eq_true rfl) (fun s55 h55 => ?_)
      obtain ⟨g55, _⟩ := h55
      have e55 : dyr f = (upd (upd f 2 (drw (f 2))) 2 (drw (drw (f 2)))) := by unfold dyr; rw [if_neg (by omega)]; dsimp only; rw [if_pos]; rw [u16]; exact (nI_leI (by omega) (by omega)).mpr h30
      refine g_vret hR (by decide +kernel : decode prog_3_method_20_code 58 = .ok (.return_, 1)) rfl ⟨rfl, ?_⟩
      show RP s55 (yr 255 (dyr f) (fun _ => 0)).1
      rw [e55]
      exact g55
    · refine g_aload_n (by decide +kernel : decode prog_3_method_20_code 33 = .ok (.aload_n 0, 1)) rfl ?_
      refine g_iload_n (by decide +kernel : decode prog_3_method_20_code 34 = .ok (.iload_n 1, 1)) rfl ?_
      refine g_aload_n (by decide +kernel : decode prog_3_method_20_code 35 = .ok (.aload_n 0, 1)) rfl ?_
      refine g_iload_n (by decide +kernel : decode prog_3_method_20_code 36 = .ok (.iload_n 1, 1)) rfl ?_
      refine g_callVI [.int (nI o)] (by decide +kernel : decode prog_3_method_20_code 37 = .ok (.invokevirtual 71, 3)) lk_Pk_71 (c_isHidden g18 (o := o) (by omega)) rfl rfl rfl rfl (Nat.le_of_ble_eq_true rfl) (Nat.le_of_ble_eq_true rfl) (fun r37 s37 h37 => ?_)
      rcases h37 with ⟨e37, ⟨rfl, q37⟩ | ⟨rfl, q37⟩⟩
      · have e37 := e37.symm; subst e37
        refine g_if_neN (tgt := 47) (by decide +kernel : decode prog_3_method_20_code 40 = .ok (.ifCond .ne 7, 3)) (by decide) (by decide) (fun _ => ?_) (fun h => False.elim (by revert h; decide))
        refine g_iconst (v := nI 0) (by decide +kernel : decode prog_3_method_20_code 47 = .ok (.iconst 0, 1)) (by decide) ?_
        refine g_callVV [.int (nI o), .int (nI 0)] (by decide +kernel : decode prog_3_method_20_code 48 = .ok (.invokevirtual 61, 3)) lk_Pk_61 (c_hide0 g18 (o := o) (by omega)) rfl rfl rfl rfl (Nat.le_of_ble_eq_true rfl) (Nat.le_of_ble_eq_true rfl) (fun s48 h48 => ?_)
        obtain ⟨g48, _⟩ := h48
        refine g_aload_n (by decide +kernel : decode prog_3_method_20_code 51 = .ok (.aload_n 0, 1)) rfl ?_
        refine g_sipush (v := nI 255) (by decide +kernel : decode prog_3_method_20_code 52 = .ok (.sipush 255, 3)) (by decide) ?_
        refine g_callVV [.int (nI 255)] (by decide +kernel : decode prog_3_method_20_code 55 = .ok (.invokevirtual 78, 3)) lk_Pk_78 (c_passYear g48 (b := fun _ => 0) (m := 255) (by decide)) rfl rfl rfl rfl (Nat.le_of_ble_eq_true rfl) (Nat.le_of_ble_eq_true rfl) (fun s55 h55 => ?_)
        obtain ⟨g55, _⟩ := h55
        have e55 : dyr f = (upd (upd (upd f 2 (drw (f 2))) 2 (drw (drw (f 2)))) (19 + 6 * o + 4) (nI 0)) := by unfold dyr; rw [if_neg (by omega)]; dsimp only; rw [eo, if_neg (fun z => h30 (by rw [u16] at z; exact (nI_leI (by omega) (by omega)).mp z))]; rw [q37]; rfl
        refine g_vret hR (by decide +kernel : decode prog_3_method_20_code 58 = .ok (.return_, 1)) rfl ⟨rfl, ?_⟩
        show RP s55 (yr 255 (dyr f) (fun _ => 0)).1
        rw [e55]
        exact g55
      · have e37 := e37.symm; subst e37
        refine g_if_neN (tgt := 47) (by decide +kernel : decode prog_3_method_20_code 40 = .ok (.ifCond .ne 7, 3)) (by decide) (by decide) (fun h => False.elim (by revert h; decide)) (fun _ => ?_)
        refine g_iconst (v := nI 1) (by decide +kernel : decode prog_3_method_20_code 43 = .ok (.iconst 1, 1)) (by decide) ?_
        refine g_goto (tgt := 48) (by decide +kernel : decode prog_3_method_20_code 44 = .ok (.goto 4, 3)) (by decide) ?_
        refine g_callVV [.int (nI o), .int (nI 1)] (by decide +kernel : decode prog_3_method_20_code 48 = .ok (.invokevirtual 61, 3)) lk_Pk_61 (c_hide1 g18 (o := o) (by omega)) rfl rfl rfl rfl (Nat.le_of_ble_eq_true rfl) (Nat.le_of_ble_eq_true rfl) (fun s48 h48 => ?_)
        obtain ⟨g48, _⟩ := h48
        refine g_aload_n (by decide +kernel : decode prog_3_method_20_code 51 = .ok (.aload_n 0, 1)) rfl ?_
        refine g_sipush (v := nI 255) (by decide +kernel : decode prog_3_method_20_code 52 = .ok (.sipush 255, 3)) (by decide) ?_
        refine g_callVV [.int (nI 255)] (by decide +kernel : decode prog_3_method_20_code 55 = .ok (.invokevirtual 78, 3)) lk_Pk_78 (c_passYear g48 (b := fun _ => 0) (m := 255) (by decide)) rfl rfl rfl rfl (Nat.le_of_ble_eq_true rfl) (Nat.le_of_ble_eq_true rfl) (fun s55 h55 => ?_)
        obtain ⟨g55, _⟩ := h55
        have e55 : dyr f = (upd (upd (upd f 2 (drw (f 2))) 2 (drw (drw (f 2)))) (19 + 6 * o + 4) (nI 1)) := by unfold dyr; rw [if_neg (by omega)]; dsimp only; rw [eo, if_neg (fun z => h30 (by rw [u16] at z; exact (nI_leI (by omega) (by omega)).mp z))]; rw [nh0 g18.i (by omega) q37]; rfl
        refine g_vret hR (by decide +kernel : decode prog_3_method_20_code 58 = .ok (.return_, 1)) rfl ⟨rfl, ?_⟩
        show RP s55 (yr 255 (dyr f) (fun _ => 0)).1
        rw [e55]
        exact g55
theorem msk_cg {f g : Row} : ∀ k, (∀ i, i < k → f (19 + 6 * i + 4) = g (19 + 6 * i + 4)) → msk f k = msk g k := by
  intro k
  induction k with
  | zero => intro _; rfl
  | succ k ih =>
    intro h
    unfold msk
    rw [ih (fun i hi => h i (by omega)), h k (by omega)]
theorem RP.adm0 {σ : Store} {f : Row} (h : RP σ f) {k a w p : Nat} (hn : nn f < 8) (hk : k ≤ 5) (ha : a ≤ 99) (hw : w ≤ 9) (hp : p ≤ 11) : RP (s_up (s_up (s_up (s_up (s_up (s_up σ 0 8 (nI (nn f + 1))) 3 (nn f) (nI k)) 4 (nn f) (nI a)) 5 (nn f) (nI w)) 6 (nn f) (nI p)) 7 (nn f) (nI 0)) (adm f k a w p 0) := by
  have hN := adm_nn (k := k) (a := a) (w := w) (p := p) (h := 0) hn
  obtain ⟨e0, e1, e2, e3, e4, e5⟩ := adm_n (f := f) (k := k) (a := a) (w := w) (p := p) (h := 0)
  refine ⟨adm_inv h.i hn hk ha hw hp (by decide), ?_, ?_, ?_, ?_, fun j hj => ?_, fun j hj => ?_, fun q hq => ?_⟩
  · rw [adm_0]; simp [s_up_self]
  · rw [hN]
    show _ = nI (msk (adm f k a w p 0) (nn f) + tn (adm f k a w p 0 (19 + 6 * nn f + 4)) * 2 ^ nn f)
    rw [e4, msk_cg (g := f) (nn f) (fun i hi => adm_p hi (by decide))]
    simp [s_up_self]
    rw [h.m, show tn (nI 0) = 0 from rfl, Nat.zero_mul, Nat.add_zero]
  · rw [adm_r (by decide) (by omega)]; simp [s_up_self]; exact h.y
  · rw [adm_r (by decide) (by omega)]; simp [s_up_self]; exact h.z
  · rw [adm_r (by omega) (by omega)]; simp [s_up_self]; exact h.l hj
  · rw [adm_r (by omega) (by omega)]; simp [s_up_self]; exact h.c hj
  · rw [hN] at hq
    by_cases e : q = nn f
    · subst e
      rw [e0, e1, e2, e3, e5]
      simp [s_up_self]
    · rw [adm_p (by omega) (by decide), adm_p (by omega) (by decide), adm_p (by omega) (by decide), adm_p (by omega) (by decide), adm_p (by omega) (by decide)]
      simp [s_up_self, e]
      exact h.2.2.2.2.2.2.2 q (by omega)
theorem adm_h {f : Row} {k a w p h : Nat} : upd (adm f k a w p 0) (19 + 6 * nn f + 4) (nI h) = adm f k a w p h := by
  unfold adm
  funext j
  unfold upd
  by_cases j4 : j = 19 + 6 * nn f + 4
  · subst j4; simp
  · rw [if_neg j4]
    by_cases j0 : j = 0
    · simp [j0]
    by_cases j5 : j = 19 + 6 * nn f + 5
    · simp [j5]
    rw [if_neg j0, if_neg j5, if_neg j4, if_neg j0, if_neg j5, if_neg j4]
set_option maxRecDepth 20000 in
theorem c_adm0 {σ : Store} {f : Row} (hP : RP σ f) {k a w p : Nat} (hn : nn f < 8) (hk : k ≤ 5) (ha : a ≤ 99) (hw : w ≤ 9) (hp : p ≤ 11) : Ct ΛP mt_Pk_adm 1 [.ref 0, .int (nI k), .int (nI a), .int (nI w), .int (nI p), .int (nI 0)] σ (PV (fun σ' => RP σ' (adm f k a w p 1))) := by
  refine Ct.of (by decide) (Nat.le_of_ble_eq_true rfl) (fun X hR => ?_)
  show G (ΛP, mt_Pk_adm, 1) X σ [some (.ref 0), some (.int (nI k)), some (.int (nI a)), some (.int (nI w)), some (.int (nI p)), some (.int (nI 0)), none] [] 0
  have hn8 := hP.n8
  refine g_aload_n (by decide +kernel : decode prog_3_method_5_code 0 = .ok (.aload_n 0, 1)) rfl ?_
  refine g_getI (by decide +kernel : decode prog_3_method_5_code 1 = .ok (.getfield 46, 3)) fl_Pk_46.get rfl rfl ?_
  refine g_top (w := nI (nn f)) (hP.n) ?_
  refine g_bipush (v := nI 8) (by decide +kernel : decode prog_3_method_5_code 4 = .ok (.bipush 8, 2)) (by decide) ?_
  refine g_icmp_ltN (tgt := 10) (by decide +kernel : decode prog_3_method_5_code 6 = .ok (.if_icmp .lt 4, 3)) (by decide) (by omega) (by decide) (fun _ => ?_) (fun z => absurd hn z)
  refine g_aload_n (by decide +kernel : decode prog_3_method_5_code 10 = .ok (.aload_n 0, 1)) rfl ?_
  refine g_dup (by decide +kernel : decode prog_3_method_5_code 11 = .ok (.dup, 1)) rfl ?_
  refine g_getI (by decide +kernel : decode prog_3_method_5_code 12 = .ok (.getfield 46, 3)) fl_Pk_46.get rfl rfl ?_
  refine g_top (w := nI (nn f)) (hP.n) ?_
  refine g_dup_x1 (by decide +kernel : decode prog_3_method_5_code 15 = .ok (.dup_x1, 1)) rfl rfl ?_
  refine g_iconst (v := nI 1) (by decide +kernel : decode prog_3_method_5_code 16 = .ok (.iconst 1, 1)) (by decide) ?_
  refine g_iaddN (by decide +kernel : decode prog_3_method_5_code 17 = .ok (.iadd, 1)) ?_
  refine g_putI (by decide +kernel : decode prog_3_method_5_code 18 = .ok (.putfield 46, 3)) fl_Pk_46 rfl rfl ?_
  refine g_istore (L' := [some (.ref 0), some (.int (nI k)), some (.int (nI a)), some (.int (nI w)), some (.int (nI p)), some (.int (nI 0)), some (.int (nI (nn f)))]) (by decide +kernel : decode prog_3_method_5_code 21 = .ok (.istore 6, 2)) (Nat.le_of_ble_eq_true rfl) rfl ?_
  refine g_aload_n (by decide +kernel : decode prog_3_method_5_code 23 = .ok (.aload_n 0, 1)) rfl ?_
  refine g_getR (by decide +kernel : decode prog_3_method_5_code 24 = .ok (.getfield 18, 3)) fl_Pk_18 rfl rfl ?_
  refine g_iload (by decide +kernel : decode prog_3_method_5_code 27 = .ok (.iload 6, 2)) rfl ?_
  refine g_iload_n (by decide +kernel : decode prog_3_method_5_code 29 = .ok (.iload_n 1, 1)) rfl ?_
  refine g_iastore (a := nn f) (by decide +kernel : decode prog_3_method_5_code 30 = .ok (.iastore, 1)) rfl rfl (by omega) (by decide) ?_
  refine g_aload_n (by decide +kernel : decode prog_3_method_5_code 31 = .ok (.aload_n 0, 1)) rfl ?_
  refine g_getR (by decide +kernel : decode prog_3_method_5_code 32 = .ok (.getfield 21, 3)) fl_Pk_21 rfl rfl ?_
  refine g_iload (by decide +kernel : decode prog_3_method_5_code 35 = .ok (.iload 6, 2)) rfl ?_
  refine g_iload_n (by decide +kernel : decode prog_3_method_5_code 37 = .ok (.iload_n 2, 1)) rfl ?_
  refine g_iastore (a := nn f) (by decide +kernel : decode prog_3_method_5_code 38 = .ok (.iastore, 1)) rfl rfl (by omega) (by decide) ?_
  refine g_aload_n (by decide +kernel : decode prog_3_method_5_code 39 = .ok (.aload_n 0, 1)) rfl ?_
  refine g_getR (by decide +kernel : decode prog_3_method_5_code 40 = .ok (.getfield 24, 3)) fl_Pk_24 rfl rfl ?_
  refine g_iload (by decide +kernel : decode prog_3_method_5_code 43 = .ok (.iload 6, 2)) rfl ?_
  refine g_iload_n (by decide +kernel : decode prog_3_method_5_code 45 = .ok (.iload_n 3, 1)) rfl ?_
  refine g_iastore (a := nn f) (by decide +kernel : decode prog_3_method_5_code 46 = .ok (.iastore, 1)) rfl rfl (by omega) (by decide) ?_
  refine g_aload_n (by decide +kernel : decode prog_3_method_5_code 47 = .ok (.aload_n 0, 1)) rfl ?_
  refine g_getR (by decide +kernel : decode prog_3_method_5_code 48 = .ok (.getfield 27, 3)) fl_Pk_27 rfl rfl ?_
  refine g_iload (by decide +kernel : decode prog_3_method_5_code 51 = .ok (.iload 6, 2)) rfl ?_
  refine g_iload (by decide +kernel : decode prog_3_method_5_code 53 = .ok (.iload 4, 2)) rfl ?_
  refine g_iastore (a := nn f) (by decide +kernel : decode prog_3_method_5_code 55 = .ok (.iastore, 1)) rfl rfl (by omega) (by decide) ?_
  refine g_aload_n (by decide +kernel : decode prog_3_method_5_code 56 = .ok (.aload_n 0, 1)) rfl ?_
  refine g_getR (by decide +kernel : decode prog_3_method_5_code 57 = .ok (.getfield 30, 3)) fl_Pk_30 rfl rfl ?_
  refine g_iload (by decide +kernel : decode prog_3_method_5_code 60 = .ok (.iload 6, 2)) rfl ?_
  refine g_iconst (v := nI 0) (by decide +kernel : decode prog_3_method_5_code 62 = .ok (.iconst 0, 1)) (by decide) ?_
  refine g_iastore (a := nn f) (by decide +kernel : decode prog_3_method_5_code 63 = .ok (.iastore, 1)) rfl rfl (by omega) (by decide) ?_
  refine g_aload_n (by decide +kernel : decode prog_3_method_5_code 64 = .ok (.aload_n 0, 1)) rfl ?_
  refine g_iload (by decide +kernel : decode prog_3_method_5_code 65 = .ok (.iload 6, 2)) rfl ?_
  refine g_iload (by decide +kernel : decode prog_3_method_5_code 67 = .ok (.iload 5, 2)) rfl ?_
  refine g_if_neN (tgt := 76) (by decide +kernel : decode prog_3_method_5_code 69 = .ok (.ifCond .ne 7, 3)) (by decide) (by decide) (fun h => False.elim (by revert h; decide)) (fun _ => ?_)
  refine g_iconst (v := nI 1) (by decide +kernel : decode prog_3_method_5_code 72 = .ok (.iconst 1, 1)) (by decide) ?_
  refine g_goto (tgt := 77) (by decide +kernel : decode prog_3_method_5_code 73 = .ok (.goto 4, 3)) (by decide) ?_
  have hA := hP.adm0 (k := k) (a := a) (w := w) (p := p) hn hk ha hw hp
  refine g_callVV [.int (nI (nn f)), .int (nI 1)] (by decide +kernel : decode prog_3_method_5_code 77 = .ok (.invokevirtual 61, 3)) lk_Pk_61 (c_hide1 hA (o := nn f) (by rw [adm_nn hn]; omega)) rfl rfl rfl rfl (Nat.le_of_ble_eq_true rfl) (Nat.le_of_ble_eq_true rfl) (fun s77 h77 => ?_)
  obtain ⟨g77, _⟩ := h77
  rw [adm_h] at g77
  exact g_vret hR (by decide +kernel : decode prog_3_method_5_code 80 = .ok (.return_, 1)) rfl ⟨rfl, g77⟩
set_option maxRecDepth 20000 in
theorem c_adm1 {σ : Store} {f : Row} (hP : RP σ f) {k a w p : Nat} (hn : nn f < 8) (hk : k ≤ 5) (ha : a ≤ 99) (hw : w ≤ 9) (hp : p ≤ 11) : Ct ΛP mt_Pk_adm 1 [.ref 0, .int (nI k), .int (nI a), .int (nI w), .int (nI p), .int (nI 1)] σ (PV (fun σ' => RP σ' (adm f k a w p 0))) := by
  refine Ct.of (by decide) (Nat.le_of_ble_eq_true rfl) (fun X hR => ?_)
  show G (ΛP, mt_Pk_adm, 1) X σ [some (.ref 0), some (.int (nI k)), some (.int (nI a)), some (.int (nI w)), some (.int (nI p)), some (.int (nI 1)), none] [] 0
  have hn8 := hP.n8
  refine g_aload_n (by decide +kernel : decode prog_3_method_5_code 0 = .ok (.aload_n 0, 1)) rfl ?_
  refine g_getI (by decide +kernel : decode prog_3_method_5_code 1 = .ok (.getfield 46, 3)) fl_Pk_46.get rfl rfl ?_
  refine g_top (w := nI (nn f)) (hP.n) ?_
  refine g_bipush (v := nI 8) (by decide +kernel : decode prog_3_method_5_code 4 = .ok (.bipush 8, 2)) (by decide) ?_
  refine g_icmp_ltN (tgt := 10) (by decide +kernel : decode prog_3_method_5_code 6 = .ok (.if_icmp .lt 4, 3)) (by decide) (by omega) (by decide) (fun _ => ?_) (fun z => absurd hn z)
  refine g_aload_n (by decide +kernel : decode prog_3_method_5_code 10 = .ok (.aload_n 0, 1)) rfl ?_
  refine g_dup (by decide +kernel : decode prog_3_method_5_code 11 = .ok (.dup, 1)) rfl ?_
  refine g_getI (by decide +kernel : decode prog_3_method_5_code 12 = .ok (.getfield 46, 3)) fl_Pk_46.get rfl rfl ?_
  refine g_top (w := nI (nn f)) (hP.n) ?_
  refine g_dup_x1 (by decide +kernel : decode prog_3_method_5_code 15 = .ok (.dup_x1, 1)) rfl rfl ?_
  refine g_iconst (v := nI 1) (by decide +kernel : decode prog_3_method_5_code 16 = .ok (.iconst 1, 1)) (by decide) ?_
  refine g_iaddN (by decide +kernel : decode prog_3_method_5_code 17 = .ok (.iadd, 1)) ?_
  refine g_putI (by decide +kernel : decode prog_3_method_5_code 18 = .ok (.putfield 46, 3)) fl_Pk_46 rfl rfl ?_
  refine g_istore (L' := [some (.ref 0), some (.int (nI k)), some (.int (nI a)), some (.int (nI w)), some (.int (nI p)), some (.int (nI 1)), some (.int (nI (nn f)))]) (by decide +kernel : decode prog_3_method_5_code 21 = .ok (.istore 6, 2)) (Nat.le_of_ble_eq_true rfl) rfl ?_
  refine g_aload_n (by decide +kernel : decode prog_3_method_5_code 23 = .ok (.aload_n 0, 1)) rfl ?_
  refine g_getR (by decide +kernel : decode prog_3_method_5_code 24 = .ok (.getfield 18, 3)) fl_Pk_18 rfl rfl ?_
  refine g_iload (by decide +kernel : decode prog_3_method_5_code 27 = .ok (.iload 6, 2)) rfl ?_
  refine g_iload_n (by decide +kernel : decode prog_3_method_5_code 29 = .ok (.iload_n 1, 1)) rfl ?_
  refine g_iastore (a := nn f) (by decide +kernel : decode prog_3_method_5_code 30 = .ok (.iastore, 1)) rfl rfl (by omega) (by decide) ?_
  refine g_aload_n (by decide +kernel : decode prog_3_method_5_code 31 = .ok (.aload_n 0, 1)) rfl ?_
  refine g_getR (by decide +kernel : decode prog_3_method_5_code 32 = .ok (.getfield 21, 3)) fl_Pk_21 rfl rfl ?_
  refine g_iload (by decide +kernel : decode prog_3_method_5_code 35 = .ok (.iload 6, 2)) rfl ?_
  refine g_iload_n (by decide +kernel : decode prog_3_method_5_code 37 = .ok (.iload_n 2, 1)) rfl ?_
  refine g_iastore (a := nn f) (by decide +kernel : decode prog_3_method_5_code 38 = .ok (.iastore, 1)) rfl rfl (by omega) (by decide) ?_
  refine g_aload_n (by decide +kernel : decode prog_3_method_5_code 39 = .ok (.aload_n 0, 1)) rfl ?_
  refine g_getR (by decide +kernel : decode prog_3_method_5_code 40 = .ok (.getfield 24, 3)) fl_Pk_24 rfl rfl ?_
  refine g_iload (by decide +kernel : decode prog_3_method_5_code 43 = .ok (.iload 6, 2)) rfl ?_
  refine g_iload_n (by decide +kernel : decode prog_3_method_5_code 45 = .ok (.iload_n 3, 1)) rfl ?_
  refine g_iastore (a := nn f) (by decide +kernel : decode prog_3_method_5_code 46 = .ok (.iastore, 1)) rfl rfl (by omega) (by decide) ?_
  refine g_aload_n (by decide +kernel : decode prog_3_method_5_code 47 = .ok (.aload_n 0, 1)) rfl ?_
  refine g_getR (by decide +kernel : decode prog_3_method_5_code 48 = .ok (.getfield 27, 3)) fl_Pk_27 rfl rfl ?_
  refine g_iload (by decide +kernel : decode prog_3_method_5_code 51 = .ok (.iload 6, 2)) rfl ?_
  refine g_iload (by decide +kernel : decode prog_3_method_5_code 53 = .ok (.iload 4, 2)) rfl ?_
  refine g_iastore (a := nn f) (by decide +kernel : decode prog_3_method_5_code 55 = .ok (.iastore, 1)) rfl rfl (by omega) (by decide) ?_
  refine g_aload_n (by decide +kernel : decode prog_3_method_5_code 56 = .ok (.aload_n 0, 1)) rfl ?_
  refine g_getR (by decide +kernel : decode prog_3_method_5_code 57 = .ok (.getfield 30, 3)) fl_Pk_30 rfl rfl ?_
  refine g_iload (by decide +kernel : decode prog_3_method_5_code 60 = .ok (.iload 6, 2)) rfl ?_
  refine g_iconst (v := nI 0) (by decide +kernel : decode prog_3_method_5_code 62 = .ok (.iconst 0, 1)) (by decide) ?_
  refine g_iastore (a := nn f) (by decide +kernel : decode prog_3_method_5_code 63 = .ok (.iastore, 1)) rfl rfl (by omega) (by decide) ?_
  refine g_aload_n (by decide +kernel : decode prog_3_method_5_code 64 = .ok (.aload_n 0, 1)) rfl ?_
  refine g_iload (by decide +kernel : decode prog_3_method_5_code 65 = .ok (.iload 6, 2)) rfl ?_
  refine g_iload (by decide +kernel : decode prog_3_method_5_code 67 = .ok (.iload 5, 2)) rfl ?_
  refine g_if_neN (tgt := 76) (by decide +kernel : decode prog_3_method_5_code 69 = .ok (.ifCond .ne 7, 3)) (by decide) (by decide) (fun _ => ?_) (fun h => False.elim (by revert h; decide))
  refine g_iconst (v := nI 0) (by decide +kernel : decode prog_3_method_5_code 76 = .ok (.iconst 0, 1)) (by decide) ?_
  have hA := hP.adm0 (k := k) (a := a) (w := w) (p := p) hn hk ha hw hp
  refine g_callVV [.int (nI (nn f)), .int (nI 0)] (by decide +kernel : decode prog_3_method_5_code 77 = .ok (.invokevirtual 61, 3)) lk_Pk_61 (c_hide0 hA (o := nn f) (by rw [adm_nn hn]; omega)) rfl rfl rfl rfl (Nat.le_of_ble_eq_true rfl) (Nat.le_of_ble_eq_true rfl) (fun s77 h77 => ?_)
  obtain ⟨g77, _⟩ := h77
  rw [adm_h] at g77
  exact g_vret hR (by decide +kernel : decode prog_3_method_5_code 80 = .ok (.return_, 1)) rfl ⟨rfl, g77⟩
theorem cp_ex (σ : Store) (a b n : Nat) : ∃ τ, s_row σ b (va_cpy (σ a) (σ b) 0 0 n) = τ ∧ (∀ j, j < n → τ b j = σ a j) ∧ (∀ c, c ≠ b → τ c = σ c) := by
  refine ⟨_, rfl, fun j hj => ?_, fun c hc => s_row_n _ _ hc⟩
  rw [s_row_k]
  unfold va_cpy
  rw [if_pos (by omega), Nat.sub_zero, Nat.zero_add]
theorem RP_beg {σ σ0 : Store} (f : Row) (h1 : ∀ j, j < 4 → σ 1 j = (roV 0).getD j 0) (h2 : ∀ j, j < 12 → σ 2 j = nI 3) (h3 : ∀ c, c ≠ 1 → c ≠ 2 → σ c = σ0 c) : RP (s_up (s_up (s_up σ 0 8 (nI 0)) 0 9 (nI 0)) 0 10 (nI 0)) (upd (beg f) 2 (σ0 0 11)) := by
  obtain ⟨b1, b2, b3, b4, b5, b6, b7, b8⟩ := beg_inv f
  have hn : nn (upd (beg f) 2 (σ0 0 11)) = 0 := by rw [nn_up (by decide)]; exact b2
  refine ⟨b1.z _, ?_, ?_, ?_, ?_, fun j hj => ?_, fun j hj => ?_, fun q hq => by omega⟩
  · rw [upd_n (by decide), b6]; simp [s_up_self]
  · rw [hn]; simp [s_up_self]; rfl
  · rw [upd_n (by decide), b5]; simp [s_up_self]
  · rw [upd_s]; simp [s_up_self]; rw [h3 0 (by decide) (by decide)]
  · rw [upd_n (by omega), b7 j hj]; simp [s_up_self]; exact h1 j hj
  · rw [upd_n (by omega), b8 j hj]; simp [s_up_self]; exact h2 j hj
set_option maxRecDepth 20000 in
theorem c_beg2 {X : CX} {σ0 : Store} {f : Row} : ∀ (b9 k : Nat) (σ : Store), (∀ j, j < 4 → σ 1 j = (roV 0).getD j 0) → (∀ j, j < k → σ 2 j = nI 3) → (∀ c, c ≠ 1 → c ≠ 2 → σ c = σ0 c) → k ≤ 12 → 12 - k < b9 → Rt (ΛP, mt_Pk_becomeAsAtFirst, 0) (PV (fun σ' => RP σ' (upd (beg f) 2 (σ0 0 11)) ∧ σ' 8 = σ0 8)) X → G (ΛP, mt_Pk_becomeAsAtFirst, 0) X σ [some (.ref 0), some (.int (nI k))] [] 26 := by
  intro b9
  induction b9 with
  | zero => intro k σ h1 h2 h3 hk hb hR; omega
  | succ b9 ih =>
  intro k σ h1 h2 h3 hk hb hR
  refine g_iload_n (by decide +kernel : decode prog_3_method_2_code 26 = .ok (.iload_n 1, 1)) rfl ?_
  refine g_bipush (v := nI 12) (by decide +kernel : decode prog_3_method_2_code 27 = .ok (.bipush 12, 2)) (by decide) ?_
  refine g_icmp_geN (tgt := 45) (by decide +kernel : decode prog_3_method_2_code 29 = .ok (.if_icmp .ge 16, 3)) (by decide) (by omega) (by decide) (fun h29 => ?_) (fun h29 => ?_)
  · refine g_aload_n (by decide +kernel : decode prog_3_method_2_code 45 = .ok (.aload_n 0, 1)) rfl ?_
    refine g_iconst (v := nI 0) (by decide +kernel : decode prog_3_method_2_code 46 = .ok (.iconst 0, 1)) (by decide) ?_
    refine g_putI (by decide +kernel : decode prog_3_method_2_code 47 = .ok (.putfield 46, 3)) fl_Pk_46 rfl rfl ?_
    refine g_aload_n (by decide +kernel : decode prog_3_method_2_code 50 = .ok (.aload_n 0, 1)) rfl ?_
    refine g_iconst (v := nI 0) (by decide +kernel : decode prog_3_method_2_code 51 = .ok (.iconst 0, 1)) (by decide) ?_
    refine g_putI (by decide +kernel : decode prog_3_method_2_code 52 = .ok (.putfield 49, 3)) fl_Pk_49 rfl rfl ?_
    refine g_aload_n (by decide +kernel : decode prog_3_method_2_code 55 = .ok (.aload_n 0, 1)) rfl ?_
    refine g_iconst (v := nI 0) (by decide +kernel : decode prog_3_method_2_code 56 = .ok (.iconst 0, 1)) (by decide) ?_
    refine g_putI (by decide +kernel : decode prog_3_method_2_code 57 = .ok (.putfield 52, 3)) fl_Pk_52 rfl rfl ?_
    obtain rfl : k = 12 := by omega
    exact g_vret hR (by decide +kernel : decode prog_3_method_2_code 60 = .ok (.return_, 1)) rfl ⟨rfl, RP_beg f h1 h2 h3, by rw [s_up_n _ _ _ (by decide), s_up_n _ _ _ (by decide), s_up_n _ _ _ (by decide)]; exact h3 8 (by decide) (by decide)⟩
  · refine g_aload_n (by decide +kernel : decode prog_3_method_2_code 32 = .ok (.aload_n 0, 1)) rfl ?_
    refine g_getR (by decide +kernel : decode prog_3_method_2_code 33 = .ok (.getfield 15, 3)) fl_Pk_15 rfl rfl ?_
    refine g_iload_n (by decide +kernel : decode prog_3_method_2_code 36 = .ok (.iload_n 1, 1)) rfl ?_
    refine g_iconst (v := nI 3) (by decide +kernel : decode prog_3_method_2_code 37 = .ok (.iconst 3, 1)) (by decide) ?_
    refine g_iastore (a := k) (by decide +kernel : decode prog_3_method_2_code 38 = .ok (.iastore, 1)) rfl rfl (by omega) (by decide) ?_
    refine g_iincN (n := 1) (L' := [some (.ref 0), some (.int (nI (k + 1)))]) (by decide +kernel : decode prog_3_method_2_code 39 = .ok (.iinc 1 1, 3)) rfl (by decide) (Nat.le_of_ble_eq_true rfl) rfl ?_
    refine g_goto (tgt := 26) (by decide +kernel : decode prog_3_method_2_code 42 = .ok (.goto (-16), 3)) (by decide) ?_
    exact ih (k + 1) _ (fun j hj => by rw [s_up_n _ _ _ (by decide)]; exact h1 j hj) (fun j hj => by rw [s_up_k]; by_cases e : j = k; (subst e; exact upd_s); (rw [upd_n e]; exact h2 j (by omega))) (fun c c1 c2 => by rw [s_up_n _ _ _ c2]; exact h3 c c1 c2) (by omega) (by omega) hR
set_option maxRecDepth 20000 in
theorem c_beg1 {X : CX} {σ0 : Store} {f : Row} : ∀ (b9 k : Nat) (σ : Store), (∀ j, j < k → σ 1 j = (roV 0).getD j 0) → (∀ c, c ≠ 1 → σ c = σ0 c) → k ≤ 4 → 4 - k < b9 → Rt (ΛP, mt_Pk_becomeAsAtFirst, 0) (PV (fun σ' => RP σ' (upd (beg f) 2 (σ0 0 11)) ∧ σ' 8 = σ0 8)) X → G (ΛP, mt_Pk_becomeAsAtFirst, 0) X σ [some (.ref 0), some (.int (nI k))] [] 2 := by
  intro b9
  induction b9 with
  | zero => intro k σ h1 h3 hk hb hR; omega
  | succ b9 ih =>
  intro k σ h1 h3 hk hb hR
  have hr4 : (roV 0).length = 4 := rfl
  refine g_iload_n (by decide +kernel : decode prog_3_method_2_code 2 = .ok (.iload_n 1, 1)) rfl ?_
  refine g_iconst (v := nI 4) (by decide +kernel : decode prog_3_method_2_code 3 = .ok (.iconst 4, 1)) (by decide) ?_
  refine g_icmp_geN (tgt := 24) (by decide +kernel : decode prog_3_method_2_code 4 = .ok (.if_icmp .ge 20, 3)) (by decide) (by omega) (by decide) (fun h4 => ?_) (fun h4 => ?_)
  · refine g_iconst (v := nI 0) (by decide +kernel : decode prog_3_method_2_code 24 = .ok (.iconst 0, 1)) (by decide) ?_
    refine g_istore_n (L' := [some (.ref 0), some (.int (nI 0))]) (by decide +kernel : decode prog_3_method_2_code 25 = .ok (.istore_n 1, 1)) (Nat.le_of_ble_eq_true rfl) rfl ?_
    obtain rfl : k = 4 := by omega
    exact c_beg2 13 0 σ h1 (fun j hj => absurd hj (Nat.not_lt_zero _)) (fun c c1 _ => h3 c c1) (by decide) (by decide) hR
  · refine g_aload_n (by decide +kernel : decode prog_3_method_2_code 7 = .ok (.aload_n 0, 1)) rfl ?_
    refine g_getR (by decide +kernel : decode prog_3_method_2_code 8 = .ok (.getfield 9, 3)) fl_Pk_9 rfl rfl ?_
    refine g_iload_n (by decide +kernel : decode prog_3_method_2_code 11 = .ok (.iload_n 1, 1)) rfl ?_
    refine g_getsN (j := 0) (by decide +kernel : decode prog_3_method_2_code 12 = .ok (.getstatic 43, 3)) (by decide) (by decide) ?_
    refine g_iload_n (by decide +kernel : decode prog_3_method_2_code 15 = .ok (.iload_n 1, 1)) rfl ?_
    refine g_roload (j := 0) (a := k) (by decide +kernel : decode prog_3_method_2_code 16 = .ok (.iaload, 1)) (by decide) rfl (by omega) ?_
    refine g_iastore (a := k) (by decide +kernel : decode prog_3_method_2_code 17 = .ok (.iastore, 1)) rfl rfl (by omega) (by decide) ?_
    refine g_iincN (n := 1) (L' := [some (.ref 0), some (.int (nI (k + 1)))]) (by decide +kernel : decode prog_3_method_2_code 18 = .ok (.iinc 1 1, 3)) rfl (by decide) (Nat.le_of_ble_eq_true rfl) rfl ?_
    refine g_goto (tgt := 2) (by decide +kernel : decode prog_3_method_2_code 21 = .ok (.goto (-19), 3)) (by decide) ?_
    exact ih (k + 1) _ (fun j hj => by rw [s_up_k]; by_cases e : j = k; (subst e; exact upd_s); (rw [upd_n e]; exact h1 j (by omega))) (fun c c1 => by rw [s_up_n _ _ _ c1]; exact h3 c c1) (by omega) (by omega) hR
theorem c_begins (σ : Store) (f : Row) : Ct ΛP mt_Pk_becomeAsAtFirst 0 [.ref 0] σ (PV (fun σ' => RP σ' (upd (beg f) 2 (σ 0 11)) ∧ σ' 8 = σ 8)) := by
  refine Ct.of (by decide) (Nat.le_of_ble_eq_true rfl) (fun X hR => ?_)
  show G (ΛP, mt_Pk_becomeAsAtFirst, 0) X σ [some (.ref 0), none] [] 0
  refine g_iconst (v := nI 0) (by decide +kernel : decode prog_3_method_2_code 0 = .ok (.iconst 0, 1)) (by decide) ?_
  refine g_istore_n (L' := [some (.ref 0), some (.int (nI 0))]) (by decide +kernel : decode prog_3_method_2_code 1 = .ok (.istore_n 1, 1)) (Nat.le_of_ble_eq_true rfl) rfl ?_
  exact c_beg1 5 0 σ (fun j hj => absurd hj (Nat.not_lt_zero _)) (fun _ _ => rfl) (by decide) (by decide) hR
abbrev ΛQ : Lay := [.inr (1, [some 1, some 2, some 3, some 4, some 5, some 6, some 7, some 8, none, none, none, none]), .inl (false, 4), .inl (false, 12), .inl (false, 8), .inl (false, 8), .inl (false, 8), .inl (false, 8), .inl (false, 8), .inl (false, 8), .inr (1, [some 10, some 11, some 12, some 13, some 14, some 15, some 16, some 17, none, none, none, none]), .inl (false, 4), .inl (false, 12), .inl (false, 8), .inl (false, 8), .inl (false, 8), .inl (false, 8), .inl (false, 8), .inl (false, 8)]
def shf (n : Nat) (σ : Store) : Store := fun k => σ (n + k)
set_option maxRecDepth 20000 in
theorem c_become (σ : Store) {f : Row} (hP : RP (shf 9 σ) f) : Ct ΛQ mt_Pk_become 1 [.ref 0, .ref 9] σ (PV (fun σ' => RP σ' f ∧ ∀ c, 8 ≤ c → σ' c = σ c)) := by
  refine Ct.of (by decide) (Nat.le_of_ble_eq_true rfl) (fun X hR => ?_)
  show G (ΛQ, mt_Pk_become, 1) X σ [some (.ref 0), some (.ref 9)] [] 0
  refine g_aload_n (by decide +kernel : decode prog_3_method_3_code 0 = .ok (.aload_n 1, 1)) rfl ?_
  refine g_getR (by decide +kernel : decode prog_3_method_3_code 1 = .ok (.getfield 9, 3)) fl_Pk_9 rfl rfl ?_
  refine g_iconst (v := nI 0) (by decide +kernel : decode prog_3_method_3_code 4 = .ok (.iconst 0, 1)) (by decide) ?_
  refine g_aload_n (by decide +kernel : decode prog_3_method_3_code 5 = .ok (.aload_n 0, 1)) rfl ?_
  refine g_getR (by decide +kernel : decode prog_3_method_3_code 6 = .ok (.getfield 9, 3)) fl_Pk_9 rfl rfl ?_
  refine g_iconst (v := nI 0) (by decide +kernel : decode prog_3_method_3_code 9 = .ok (.iconst 0, 1)) (by decide) ?_
  refine g_iconst (v := nI 4) (by decide +kernel : decode prog_3_method_3_code 10 = .ok (.iconst 4, 1)) (by decide) ?_
  refine g_copy (n := 4) (by decide +kernel : decode prog_3_method_3_code 11 = .ok (.invokestatic 55, 3)) ac_Pk_55 ac_all rfl rfl rfl (by decide) (by decide) (by decide) (by decide) rfl ?_
  obtain ⟨t11, c11, d11, f11⟩ := cp_ex σ 10 1 4
  rw [c11]
  refine g_aload_n (by decide +kernel : decode prog_3_method_3_code 14 = .ok (.aload_n 1, 1)) rfl ?_
  refine g_getR (by decide +kernel : decode prog_3_method_3_code 15 = .ok (.getfield 15, 3)) fl_Pk_15 rfl rfl ?_
  refine g_iconst (v := nI 0) (by decide +kernel : decode prog_3_method_3_code 18 = .ok (.iconst 0, 1)) (by decide) ?_
  refine g_aload_n (by decide +kernel : decode prog_3_method_3_code 19 = .ok (.aload_n 0, 1)) rfl ?_
  refine g_getR (by decide +kernel : decode prog_3_method_3_code 20 = .ok (.getfield 15, 3)) fl_Pk_15 rfl rfl ?_
  refine g_iconst (v := nI 0) (by decide +kernel : decode prog_3_method_3_code 23 = .ok (.iconst 0, 1)) (by decide) ?_
  refine g_bipush (v := nI 12) (by decide +kernel : decode prog_3_method_3_code 24 = .ok (.bipush 12, 2)) (by decide) ?_
  refine g_copy (n := 12) (by decide +kernel : decode prog_3_method_3_code 26 = .ok (.invokestatic 55, 3)) ac_Pk_55 ac_all rfl rfl rfl (by decide) (by decide) (by decide) (by decide) rfl ?_
  obtain ⟨t26, c26, d26, f26⟩ := cp_ex t11 11 2 12
  rw [c26]
  refine g_aload_n (by decide +kernel : decode prog_3_method_3_code 29 = .ok (.aload_n 1, 1)) rfl ?_
  refine g_getR (by decide +kernel : decode prog_3_method_3_code 30 = .ok (.getfield 18, 3)) fl_Pk_18 rfl rfl ?_
  refine g_iconst (v := nI 0) (by decide +kernel : decode prog_3_method_3_code 33 = .ok (.iconst 0, 1)) (by decide) ?_
  refine g_aload_n (by decide +kernel : decode prog_3_method_3_code 34 = .ok (.aload_n 0, 1)) rfl ?_
  refine g_getR (by decide +kernel : decode prog_3_method_3_code 35 = .ok (.getfield 18, 3)) fl_Pk_18 rfl rfl ?_
  refine g_iconst (v := nI 0) (by decide +kernel : decode prog_3_method_3_code 38 = .ok (.iconst 0, 1)) (by decide) ?_
  refine g_bipush (v := nI 8) (by decide +kernel : decode prog_3_method_3_code 39 = .ok (.bipush 8, 2)) (by decide) ?_
  refine g_copy (n := 8) (by decide +kernel : decode prog_3_method_3_code 41 = .ok (.invokestatic 55, 3)) ac_Pk_55 ac_all rfl rfl rfl (by decide) (by decide) (by decide) (by decide) rfl ?_
  obtain ⟨t41, c41, d41, f41⟩ := cp_ex t26 12 3 8
  rw [c41]
  refine g_aload_n (by decide +kernel : decode prog_3_method_3_code 44 = .ok (.aload_n 1, 1)) rfl ?_
  refine g_getR (by decide +kernel : decode prog_3_method_3_code 45 = .ok (.getfield 21, 3)) fl_Pk_21 rfl rfl ?_
  refine g_iconst (v := nI 0) (by decide +kernel : decode prog_3_method_3_code 48 = .ok (.iconst 0, 1)) (by decide) ?_
  refine g_aload_n (by decide +kernel : decode prog_3_method_3_code 49 = .ok (.aload_n 0, 1)) rfl ?_
  refine g_getR (by decide +kernel : decode prog_3_method_3_code 50 = .ok (.getfield 21, 3)) fl_Pk_21 rfl rfl ?_
  refine g_iconst (v := nI 0) (by decide +kernel : decode prog_3_method_3_code 53 = .ok (.iconst 0, 1)) (by decide) ?_
  refine g_bipush (v := nI 8) (by decide +kernel : decode prog_3_method_3_code 54 = .ok (.bipush 8, 2)) (by decide) ?_
  refine g_copy (n := 8) (by decide +kernel : decode prog_3_method_3_code 56 = .ok (.invokestatic 55, 3)) ac_Pk_55 ac_all rfl rfl rfl (by decide) (by decide) (by decide) (by decide) rfl ?_
  obtain ⟨t56, c56, d56, f56⟩ := cp_ex t41 13 4 8
  rw [c56]
  refine g_aload_n (by decide +kernel : decode prog_3_method_3_code 59 = .ok (.aload_n 1, 1)) rfl ?_
  refine g_getR (by decide +kernel : decode prog_3_method_3_code 60 = .ok (.getfield 24, 3)) fl_Pk_24 rfl rfl ?_
  refine g_iconst (v := nI 0) (by decide +kernel : decode prog_3_method_3_code 63 = .ok (.iconst 0, 1)) (by decide) ?_
  refine g_aload_n (by decide +kernel : decode prog_3_method_3_code 64 = .ok (.aload_n 0, 1)) rfl ?_
  refine g_getR (by decide +kernel : decode prog_3_method_3_code 65 = .ok (.getfield 24, 3)) fl_Pk_24 rfl rfl ?_
  refine g_iconst (v := nI 0) (by decide +kernel : decode prog_3_method_3_code 68 = .ok (.iconst 0, 1)) (by decide) ?_
  refine g_bipush (v := nI 8) (by decide +kernel : decode prog_3_method_3_code 69 = .ok (.bipush 8, 2)) (by decide) ?_
  refine g_copy (n := 8) (by decide +kernel : decode prog_3_method_3_code 71 = .ok (.invokestatic 55, 3)) ac_Pk_55 ac_all rfl rfl rfl (by decide) (by decide) (by decide) (by decide) rfl ?_
  obtain ⟨t71, c71, d71, f71⟩ := cp_ex t56 14 5 8
  rw [c71]
  refine g_aload_n (by decide +kernel : decode prog_3_method_3_code 74 = .ok (.aload_n 1, 1)) rfl ?_
  refine g_getR (by decide +kernel : decode prog_3_method_3_code 75 = .ok (.getfield 27, 3)) fl_Pk_27 rfl rfl ?_
  refine g_iconst (v := nI 0) (by decide +kernel : decode prog_3_method_3_code 78 = .ok (.iconst 0, 1)) (by decide) ?_
  refine g_aload_n (by decide +kernel : decode prog_3_method_3_code 79 = .ok (.aload_n 0, 1)) rfl ?_
  refine g_getR (by decide +kernel : decode prog_3_method_3_code 80 = .ok (.getfield 27, 3)) fl_Pk_27 rfl rfl ?_
  refine g_iconst (v := nI 0) (by decide +kernel : decode prog_3_method_3_code 83 = .ok (.iconst 0, 1)) (by decide) ?_
  refine g_bipush (v := nI 8) (by decide +kernel : decode prog_3_method_3_code 84 = .ok (.bipush 8, 2)) (by decide) ?_
  refine g_copy (n := 8) (by decide +kernel : decode prog_3_method_3_code 86 = .ok (.invokestatic 55, 3)) ac_Pk_55 ac_all rfl rfl rfl (by decide) (by decide) (by decide) (by decide) rfl ?_
  obtain ⟨t86, c86, d86, f86⟩ := cp_ex t71 15 6 8
  rw [c86]
  refine g_aload_n (by decide +kernel : decode prog_3_method_3_code 89 = .ok (.aload_n 1, 1)) rfl ?_
  refine g_getR (by decide +kernel : decode prog_3_method_3_code 90 = .ok (.getfield 30, 3)) fl_Pk_30 rfl rfl ?_
  refine g_iconst (v := nI 0) (by decide +kernel : decode prog_3_method_3_code 93 = .ok (.iconst 0, 1)) (by decide) ?_
  refine g_aload_n (by decide +kernel : decode prog_3_method_3_code 94 = .ok (.aload_n 0, 1)) rfl ?_
  refine g_getR (by decide +kernel : decode prog_3_method_3_code 95 = .ok (.getfield 30, 3)) fl_Pk_30 rfl rfl ?_
  refine g_iconst (v := nI 0) (by decide +kernel : decode prog_3_method_3_code 98 = .ok (.iconst 0, 1)) (by decide) ?_
  refine g_bipush (v := nI 8) (by decide +kernel : decode prog_3_method_3_code 99 = .ok (.bipush 8, 2)) (by decide) ?_
  refine g_copy (n := 8) (by decide +kernel : decode prog_3_method_3_code 101 = .ok (.invokestatic 55, 3)) ac_Pk_55 ac_all rfl rfl rfl (by decide) (by decide) (by decide) (by decide) rfl ?_
  obtain ⟨t101, c101, d101, f101⟩ := cp_ex t86 16 7 8
  rw [c101]
  refine g_aload_n (by decide +kernel : decode prog_3_method_3_code 104 = .ok (.aload_n 0, 1)) rfl ?_
  refine g_aload_n (by decide +kernel : decode prog_3_method_3_code 105 = .ok (.aload_n 1, 1)) rfl ?_
  refine g_getI (by decide +kernel : decode prog_3_method_3_code 106 = .ok (.getfield 46, 3)) fl_Pk_46.get rfl rfl ?_
  refine g_putI (by decide +kernel : decode prog_3_method_3_code 109 = .ok (.putfield 46, 3)) fl_Pk_46 rfl rfl ?_
  refine g_aload_n (by decide +kernel : decode prog_3_method_3_code 112 = .ok (.aload_n 0, 1)) rfl ?_
  refine g_aload_n (by decide +kernel : decode prog_3_method_3_code 113 = .ok (.aload_n 1, 1)) rfl ?_
  refine g_getI (by decide +kernel : decode prog_3_method_3_code 114 = .ok (.getfield 49, 3)) fl_Pk_49.get rfl rfl ?_
  refine g_putI (by decide +kernel : decode prog_3_method_3_code 117 = .ok (.putfield 49, 3)) fl_Pk_49 rfl rfl ?_
  refine g_aload_n (by decide +kernel : decode prog_3_method_3_code 120 = .ok (.aload_n 0, 1)) rfl ?_
  refine g_aload_n (by decide +kernel : decode prog_3_method_3_code 121 = .ok (.aload_n 1, 1)) rfl ?_
  refine g_getI (by decide +kernel : decode prog_3_method_3_code 122 = .ok (.getfield 52, 3)) fl_Pk_52.get rfl rfl ?_
  refine g_putI (by decide +kernel : decode prog_3_method_3_code 125 = .ok (.putfield 52, 3)) fl_Pk_52 rfl rfl ?_
  refine g_aload_n (by decide +kernel : decode prog_3_method_3_code 128 = .ok (.aload_n 0, 1)) rfl ?_
  refine g_aload_n (by decide +kernel : decode prog_3_method_3_code 129 = .ok (.aload_n 1, 1)) rfl ?_
  refine g_getI (by decide +kernel : decode prog_3_method_3_code 130 = .ok (.getfield 36, 3)) fl_Pk_36.get rfl rfl ?_
  refine g_putI (by decide +kernel : decode prog_3_method_3_code 133 = .ok (.putfield 36, 3)) fl_Pk_36 rfl rfl ?_
  refine g_vret hR (by decide +kernel : decode prog_3_method_3_code 136 = .ok (.return_, 1)) rfl ⟨rfl, ?_, ?_⟩
  · refine ⟨hP.i, ?_, ?_, ?_, ?_, fun j hj => ?_, fun j hj => ?_, fun q hq => ?_⟩
    · simp (disch := decide) [s_up_self, f11, f26, f41, f56, f71, f86, f101]; exact hP.2.1
    · simp (disch := decide) [s_up_self, f11, f26, f41, f56, f71, f86, f101]; exact hP.m
    · simp (disch := decide) [s_up_self, f11, f26, f41, f56, f71, f86, f101]; exact hP.y
    · simp (disch := decide) [s_up_self, f11, f26, f41, f56, f71, f86, f101]; exact hP.z
    · simp (disch := decide) [s_up_self, f11, f26, f41, f56, f71, f86, f101]; rw [d11 j hj]; exact hP.l hj
    · simp (disch := decide) [s_up_self, f11, f26, f41, f56, f71, f86, f101]; rw [d26 j hj, f11 _ (by decide)]; exact hP.c hj
    · have hq8 : q < 8 := Nat.lt_of_lt_of_le hq hP.n8
      simp (disch := decide) [s_up_self, f11, f26, f41, f56, f71, f86, f101]
      rw [d41 q hq8, d56 q hq8, d71 q hq8, d86 q hq8, d101 q hq8]
      simp (disch := decide) only [f11, f26, f41, f56, f71, f86, f101]
      exact hP.2.2.2.2.2.2.2 q hq
  · intro c hc
    rw [s_up_n _ _ _ (by omega), s_up_n _ _ _ (by omega), s_up_n _ _ _ (by omega), s_up_n _ _ _ (by omega)]
    rw [f101 c (by omega), f86 c (by omega), f71 c (by omega), f56 c (by omega), f41 c (by omega), f26 c (by omega), f11 c (by omega)]
