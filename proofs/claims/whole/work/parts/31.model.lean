/-! THE REFERENCE: people, laws and covers of the text, and the text -/
theorem adm_x {f g : Row} {k a w p h : Nat} (h0 : g 0 = nI (nn f + 1)) (hk : g (19 + 6 * nn f + 0) = nI k) (ha : g (19 + 6 * nn f + 1) = nI a) (hw : g (19 + 6 * nn f + 2) = nI w) (hp : g (19 + 6 * nn f + 3) = nI p) (hh : g (19 + 6 * nn f + 4) = nI h) (h5 : g (19 + 6 * nn f + 5) = nI 0) (hr : ∀ j, j ≠ 0 → (j < 19 + 6 * nn f ∨ 19 + 6 * nn f + 5 < j) → g j = f j) : g = adm f k a w p h := by
  funext j
  unfold adm upd
  by_cases j0 : j = 0
  · subst j0; simp [h0]
  by_cases j5 : j = 19 + 6 * nn f + 5
  · subst j5; simp [h5]
  by_cases j4 : j = 19 + 6 * nn f + 4
  · subst j4; simp [hh]
  by_cases j3 : j = 19 + 6 * nn f + 3
  · subst j3; simp [hp]
  by_cases j2 : j = 19 + 6 * nn f + 2
  · subst j2; simp [hw]
  by_cases j1 : j = 19 + 6 * nn f + 1
  · subst j1; simp [ha]
  by_cases jz : j = 19 + 6 * nn f + 0
  · subst jz; simp at hk; simp [hk]
  rw [if_neg j0, if_neg j5, if_neg j4, if_neg j3, if_neg j2, if_neg j1, if_neg jz]
  exact hr j j0 (by omega)
theorem nm3_age {B : Nat → Nat} {t q : Nat} : (kd B t q = 1 ∧ en B t q = q + 3 ∧ B q = 97 ∧ B (q + 1) = 103 ∧ B (q + 2) = 101 ∧ B (q + 2) = 101) ↔ nm B t q W_age := ⟨fun h => nm_age.mpr ⟨h.1, h.2.1, h.2.2.1, h.2.2.2.1, h.2.2.2.2.1⟩, fun z => by have h := nm_age.mp z; exact ⟨h.1, h.2.1, h.2.2.1, h.2.2.2.1, h.2.2.2.2, h.2.2.2.2⟩⟩
theorem nm3_wit {B : Nat → Nat} {t q : Nat} : (kd B t q = 1 ∧ en B t q = q + 3 ∧ B q = 119 ∧ B (q + 1) = 105 ∧ B (q + 2) = 116 ∧ B (q + 2) = 116) ↔ nm B t q W_wit := ⟨fun h => nm_wit.mpr ⟨h.1, h.2.1, h.2.2.1, h.2.2.2.1, h.2.2.2.2.1⟩, fun z => by have h := nm_wit.mp z; exact ⟨h.1, h.2.1, h.2.2.1, h.2.2.2.1, h.2.2.2.2, h.2.2.2.2⟩⟩
set_option maxRecDepth 20000 in
theorem m_perW (σ : Store) (f b : Row) {t : Nat} (hT : TP σ t) (x y : Int32) (m : Nat) (q : Nat) : Ct ΛM mt_Md_perhaps 4 [.ref 0, .int x, .int y, .int (nI m)] (mS (kS σ (nI (kd (Bt σ) t q)) (nI q) (nI (en (Bt σ) t q)) (nI (vl (Bt σ) t q)) (nI 1)) f b) (PU (mS (tS σ t (nI 1) q) f b)) := by
  refine Ct.of (by decide) (Nat.le_of_ble_eq_true rfl) (fun X hR => ?_)
  show G (ΛM, mt_Md_perhaps, 4) X (mS (kS σ (nI (kd (Bt σ) t q)) (nI q) (nI (en (Bt σ) t q)) (nI (vl (Bt σ) t q)) (nI 1)) f b) [some (.ref 0), some (.int x), some (.int y), some (.int (nI m))] [] 0
  refine g_aload_n (by decide +kernel : decode prog_10_method_25_code 0 = .ok (.aload_n 0, 1)) rfl ?_
  refine g_getI (by decide +kernel : decode prog_10_method_25_code 1 = .ok (.getfield 90, 3)) fl_Md_90.get rfl rfl ?_
  refine g_top (w := nI 1) (rfl) ?_
  refine g_if_neN (tgt := 21) (by decide +kernel : decode prog_10_method_25_code 4 = .ok (.ifCond .ne 17, 3)) (by decide) (by decide) (fun _ => ?_) (fun h => False.elim (by revert h; decide))
  exact g_vret hR (by decide +kernel : decode prog_10_method_25_code 21 = .ok (.return_, 1)) rfl ⟨rfl, rfl⟩
set_option maxRecDepth 20000 in
theorem m_per0 (σ : Store) (f b : Row) {t : Nat} (hT : TP σ t) (y : Int32) (m : Nat) (q : Nat) : Ct ΛM mt_Md_perhaps 4 [.ref 0, .int (nI 0), .int y, .int (nI m)] (mS (kS σ (nI (kd (Bt σ) t q)) (nI q) (nI (en (Bt σ) t q)) (nI (vl (Bt σ) t q)) (nI 0)) f b) (PU (mS (tS σ t (nI 0) q) f b)) := by
  refine Ct.of (by decide) (Nat.le_of_ble_eq_true rfl) (fun X hR => ?_)
  show G (ΛM, mt_Md_perhaps, 4) X (mS (kS σ (nI (kd (Bt σ) t q)) (nI q) (nI (en (Bt σ) t q)) (nI (vl (Bt σ) t q)) (nI 0)) f b) [some (.ref 0), some (.int (nI 0)), some (.int y), some (.int (nI m))] [] 0
  refine g_aload_n (by decide +kernel : decode prog_10_method_25_code 0 = .ok (.aload_n 0, 1)) rfl ?_
  refine g_getI (by decide +kernel : decode prog_10_method_25_code 1 = .ok (.getfield 90, 3)) fl_Md_90.get rfl rfl ?_
  refine g_top (w := nI 0) (rfl) ?_
  refine g_if_neN (tgt := 21) (by decide +kernel : decode prog_10_method_25_code 4 = .ok (.ifCond .ne 17, 3)) (by decide) (by decide) (fun h => False.elim (by revert h; decide)) (fun _ => ?_)
  refine g_iload_n (by decide +kernel : decode prog_10_method_25_code 7 = .ok (.iload_n 1, 1)) rfl ?_
  refine g_if_eqN (tgt := 21) (by decide +kernel : decode prog_10_method_25_code 8 = .ok (.ifCond .eq 13, 3)) (by decide) (by decide) (fun _ => ?_) (fun h => False.elim (by revert h; decide))
  exact g_vret hR (by decide +kernel : decode prog_10_method_25_code 21 = .ok (.return_, 1)) rfl ⟨rfl, rfl⟩
set_option maxRecDepth 20000 in
theorem m_per1 (σ : Store) (f b : Row) {t : Nat} (hT : TP σ t) (a m : Nat) (ha : a < 67) (hm : m < 2 ^ 31) {q : Nat} (hq : q ≤ t) {q' : Nat} (e : nx (Bt σ) t q = q') : Ct ΛM mt_Md_perhaps 4 [.ref 0, .int (nI 1), .int (nI a), .int (nI m)] (mS (kS σ (nI (kd (Bt σ) t q)) (nI q) (nI (en (Bt σ) t q)) (nI (vl (Bt σ) t q)) (nI 0)) f b) (PV (fun σ' => (isN (Bt σ) t m q' ∧ σ' = mS (tS σ t (nI 0) (nx (Bt σ) t q')) (upd f a (nI (vl (Bt σ) t q'))) b) ∨ (¬ isN (Bt σ) t m q' ∧ σ' = mS (tS σ t (nI 1) q') f b))) := by
  refine Ct.of (by decide) (Nat.le_of_ble_eq_true rfl) (fun X hR => ?_)
  show G (ΛM, mt_Md_perhaps, 4) X (mS (kS σ (nI (kd (Bt σ) t q)) (nI q) (nI (en (Bt σ) t q)) (nI (vl (Bt σ) t q)) (nI 0)) f b) [some (.ref 0), some (.int (nI 1)), some (.int (nI a)), some (.int (nI m))] [] 0
  have h200 := hT.2.1
  have hen := en_b (B := Bt σ) hq
  have hvl := vl_b (B := Bt σ) (t := t) (q := q)
  have hkd := kd_le (Bt σ) t q
  refine g_aload_n (by decide +kernel : decode prog_10_method_25_code 0 = .ok (.aload_n 0, 1)) rfl ?_
  refine g_getI (by decide +kernel : decode prog_10_method_25_code 1 = .ok (.getfield 90, 3)) fl_Md_90.get rfl rfl ?_
  refine g_top (w := nI 0) (rfl) ?_
  refine g_if_neN (tgt := 21) (by decide +kernel : decode prog_10_method_25_code 4 = .ok (.ifCond .ne 17, 3)) (by decide) (by decide) (fun h => False.elim (by revert h; decide)) (fun _ => ?_)
  refine g_iload_n (by decide +kernel : decode prog_10_method_25_code 7 = .ok (.iload_n 1, 1)) rfl ?_
  refine g_if_eqN (tgt := 21) (by decide +kernel : decode prog_10_method_25_code 8 = .ok (.ifCond .eq 13, 3)) (by decide) (by decide) (fun h => False.elim (by revert h; decide)) (fun _ => ?_)
  refine g_aload_n (by decide +kernel : decode prog_10_method_25_code 11 = .ok (.aload_n 0, 1)) rfl ?_
  obtain ⟨a12, e12, l12⟩ : ∃ z, nx (Bt σ) t q = z ∧ z ≤ t := ⟨_, rfl, (nx_b (by omega)).2.1⟩
  have j12 := en_b (B := Bt σ) l12
  have y12 := vl_b (B := Bt σ) (t := t) (q := a12)
  have k12 := kd_le (Bt σ) t a12
  refine g_callVV [] (by decide +kernel : decode prog_10_method_25_code 12 = .ok (.invokevirtual 94, 3)) lk_Md_94 (m_nextT σ f b hT (by omega) e12) rfl rfl rfl rfl (Nat.le_of_ble_eq_true rfl) (Nat.le_of_ble_eq_true rfl) (fun s12 h12 => ?_)
  obtain rfl := h12
  refine g_aload_n (by decide +kernel : decode prog_10_method_25_code 15 = .ok (.aload_n 0, 1)) rfl ?_
  refine g_iload_n (by decide +kernel : decode prog_10_method_25_code 16 = .ok (.iload_n 2, 1)) rfl ?_
  refine g_iload_n (by decide +kernel : decode prog_10_method_25_code 17 = .ok (.iload_n 3, 1)) rfl ?_
  refine g_callVV [.int (nI a), .int (nI m)] (by decide +kernel : decode prog_10_method_25_code 18 = .ok (.invokevirtual 115, 3)) lk_Md_115 (m_num σ f b hT a m (by omega) (by omega) (by omega)) rfl rfl rfl rfl (Nat.le_of_ble_eq_true rfl) (Nat.le_of_ble_eq_true rfl) (fun s18 h18 => ?_)
  rcases h18 with ⟨i18, rfl⟩ | ⟨i18, rfl⟩
  · obtain ⟨a18, e18, l18⟩ : ∃ z, nx (Bt σ) t a12 = z ∧ z ≤ t := ⟨_, rfl, (nx_b (by omega)).2.1⟩
    rw [e18]
    have j18 := en_b (B := Bt σ) l18
    have y18 := vl_b (B := Bt σ) (t := t) (q := a18)
    have k18 := kd_le (Bt σ) t a18
    exact g_vret hR (by decide +kernel : decode prog_10_method_25_code 21 = .ok (.return_, 1)) rfl ⟨rfl, Or.inl ⟨(by rw [← e, e12]; exact i18), by rw [← e, e12, e18]⟩⟩
  · exact g_vret hR (by decide +kernel : decode prog_10_method_25_code 21 = .ok (.return_, 1)) rfl ⟨rfl, Or.inr ⟨(by rw [← e, e12]; exact i18), by rw [← e, e12]⟩⟩
theorem PK_ok {σ : Store} {t : Nat} {b f g : Row} {r : PR} {q' k a w p h : Nat} (hq : q' ≤ t) (hr : r = .inr (q', adm f k a w p h)) (hg : g = adm f k a w p h) : PK σ t b r (mS (tS σ t (nI 0) q') g b) := by
  subst hr; subst hg
  exact ⟨hq, rfl⟩
set_option maxRecDepth 20000 in
theorem m_personHere (σ : Store) (f b : Row) {t : Nat} (hT : TP σ t) (hI : Inv f) (hZ : Zf f) (k : Nat) {q : Nat} (hq : q ≤ t) : Ct ΛM mt_Md_personHere 5 [.ref 0, .int (nI k)] (mS (kS σ (nI (kd (Bt σ) t q)) (nI q) (nI (en (Bt σ) t q)) (nI (vl (Bt σ) t q)) (nI 0)) f b) (PV (PK σ t b (peK (Bt σ) t f k q))) := by
  refine Ct.of (by decide) (Nat.le_of_ble_eq_true rfl) (fun X hR => ?_)
  show G (ΛM, mt_Md_personHere, 5) X (mS (kS σ (nI (kd (Bt σ) t q)) (nI q) (nI (en (Bt σ) t q)) (nI (vl (Bt σ) t q)) (nI 0)) f b) [some (.ref 0), some (.int (nI k)), none] [] 0
  have h200 := hT.2.1
  have hen := en_b (B := Bt σ) hq
  have hvl := vl_b (B := Bt σ) (t := t) (q := q)
  have hkd := kd_le (Bt σ) t q
  have hn8 := hI.n.2
  have z1 : nn f < 8 → f (19 + 6 * nn f + 1) = nI 0 := fun z => hZ _ (by omega) (by omega)
  have z2 : nn f < 8 → f (19 + 6 * nn f + 2) = nI 0 := fun z => hZ _ (by omega) (by omega)
  have z5 : nn f < 8 → f (19 + 6 * nn f + 5) = nI 0 := fun z => hZ _ (by omega) (by omega)
  refine g_bipush (v := nI 19) (by decide +kernel : decode prog_10_method_27_code 0 = .ok (.bipush 19, 2)) (by decide) ?_
  refine g_bipush (v := nI 6) (by decide +kernel : decode prog_10_method_27_code 2 = .ok (.bipush 6, 2)) (by decide) ?_
  refine g_aload_n (by decide +kernel : decode prog_10_method_27_code 4 = .ok (.aload_n 0, 1)) rfl ?_
  refine g_getR (by decide +kernel : decode prog_10_method_27_code 5 = .ok (.getfield 7, 3)) fl_Md_7 rfl rfl ?_
  refine g_iconst (v := nI 0) (by decide +kernel : decode prog_10_method_27_code 8 = .ok (.iconst 0, 1)) (by decide) ?_
  refine g_iaload (a := 0) (by decide +kernel : decode prog_10_method_27_code 9 = .ok (.iaload, 1)) rfl rfl (by decide) (by decide) ?_
  refine g_top (w := nI (nn f)) (hI.n.1) ?_
  refine g_imulN (by decide +kernel : decode prog_10_method_27_code 10 = .ok (.imul, 1)) ?_
  refine g_iaddN (by decide +kernel : decode prog_10_method_27_code 11 = .ok (.iadd, 1)) ?_
  refine g_istore_n (L' := [some (.ref 0), some (.int (nI k)), some (.int (nI (19 + 6 * (nn f))))]) (by decide +kernel : decode prog_10_method_27_code 12 = .ok (.istore_n 2, 1)) (Nat.le_of_ble_eq_true rfl) rfl ?_
  refine g_aload_n (by decide +kernel : decode prog_10_method_27_code 13 = .ok (.aload_n 0, 1)) rfl ?_
  refine g_aload_n (by decide +kernel : decode prog_10_method_27_code 14 = .ok (.aload_n 0, 1)) rfl ?_
  refine g_getR (by decide +kernel : decode prog_10_method_27_code 15 = .ok (.getfield 7, 3)) fl_Md_7 rfl rfl ?_
  refine g_iconst (v := nI 0) (by decide +kernel : decode prog_10_method_27_code 18 = .ok (.iconst 0, 1)) (by decide) ?_
  refine g_iaload (a := 0) (by decide +kernel : decode prog_10_method_27_code 19 = .ok (.iaload, 1)) rfl rfl (by decide) (by decide) ?_
  refine g_top (w := nI (nn f)) (hI.n.1) ?_
  refine g_bipush (v := nI 8) (by decide +kernel : decode prog_10_method_27_code 20 = .ok (.bipush 8, 2)) (by decide) ?_
  refine g_icmp_geN (tgt := 29) (by decide +kernel : decode prog_10_method_27_code 22 = .ok (.if_icmp .ge 7, 3)) (by decide) (by omega) (by decide) (fun h22 => ?_) (fun h22 => ?_)
  · refine g_iconst (v := nI 0) (by decide +kernel : decode prog_10_method_27_code 29 = .ok (.iconst 0, 1)) (by decide) ?_
    refine g_callVV [.int (nI 0)] (by decide +kernel : decode prog_10_method_27_code 30 = .ok (.invokevirtual 111, 3)) lk_Md_111 (m_needs0 σ f b hT q) rfl rfl rfl rfl (Nat.le_of_ble_eq_true rfl) (Nat.le_of_ble_eq_true rfl) (fun s30 h30 => ?_)
    obtain rfl := h30
    refine g_aload_n (by decide +kernel : decode prog_10_method_27_code 33 = .ok (.aload_n 0, 1)) rfl ?_
    refine g_aload_n (by decide +kernel : decode prog_10_method_27_code 34 = .ok (.aload_n 0, 1)) rfl ?_
    refine g_bipush (v := nI 97) (by decide +kernel : decode prog_10_method_27_code 35 = .ok (.bipush 97, 2)) (by decide) ?_
    refine g_bipush (v := nI 116) (by decide +kernel : decode prog_10_method_27_code 37 = .ok (.bipush 116, 2)) (by decide) ?_
    refine g_callVI [.int (nI 97), .int (nI 116)] (by decide +kernel : decode prog_10_method_27_code 39 = .ok (.invokevirtual 119, 3)) lk_Md_119 (m_isTwo σ f b hT (nI 1) (by omega) 97 116 (by decide) (by decide) ) rfl rfl rfl rfl (Nat.le_of_ble_eq_true rfl) (Nat.le_of_ble_eq_true rfl) (fun r39 s39 h39 => ?_)
    obtain ⟨rfl, _⟩ := h39
    refine g_callVV [.int r39] (by decide +kernel : decode prog_10_method_27_code 42 = .ok (.invokevirtual 111, 3)) lk_Md_111 (m_needsW σ f b hT r39 q) rfl rfl rfl rfl (Nat.le_of_ble_eq_true rfl) (Nat.le_of_ble_eq_true rfl) (fun s42 h42 => ?_)
    obtain rfl := h42
    refine g_aload_n (by decide +kernel : decode prog_10_method_27_code 45 = .ok (.aload_n 0, 1)) rfl ?_
    refine g_getI (by decide +kernel : decode prog_10_method_27_code 46 = .ok (.getfield 90, 3)) fl_Md_90.get rfl rfl ?_
    refine g_top (w := nI 1) (rfl) ?_
    refine g_if_neN (tgt := 78) (by decide +kernel : decode prog_10_method_27_code 49 = .ok (.ifCond .ne 29, 3)) (by decide) (by decide) (fun _ => ?_) (fun h => False.elim (by revert h; decide))
    refine g_aload_n (by decide +kernel : decode prog_10_method_27_code 78 = .ok (.aload_n 0, 1)) rfl ?_
    refine g_aload_n (by decide +kernel : decode prog_10_method_27_code 79 = .ok (.aload_n 0, 1)) rfl ?_
    refine g_getI (by decide +kernel : decode prog_10_method_27_code 80 = .ok (.getfield 90, 3)) fl_Md_90.get rfl rfl ?_
    refine g_top (w := nI 1) (rfl) ?_
    refine g_if_eqN (tgt := 90) (by decide +kernel : decode prog_10_method_27_code 83 = .ok (.ifCond .eq 7, 3)) (by decide) (by decide) (fun h => False.elim (by revert h; decide)) (fun _ => ?_)
    refine g_iconst (v := nI 0) (by decide +kernel : decode prog_10_method_27_code 86 = .ok (.iconst 0, 1)) (by decide) ?_
    refine g_goto (tgt := 93) (by decide +kernel : decode prog_10_method_27_code 87 = .ok (.goto 6, 3)) (by decide) ?_
    refine g_bipush (v := nI 11) (by decide +kernel : decode prog_10_method_27_code 93 = .ok (.bipush 11, 2)) (by decide) ?_
    refine g_callVV [.int (nI 0), .int (nI 11)] (by decide +kernel : decode prog_10_method_27_code 95 = .ok (.invokevirtual 115, 3)) lk_Md_115 (m_numW σ f b hT (nI 0) 11 (by decide) (by omega)) rfl rfl rfl rfl (Nat.le_of_ble_eq_true rfl) (Nat.le_of_ble_eq_true rfl) (fun s95 h95 => ?_)
    obtain rfl := h95
    refine g_aload_n (by decide +kernel : decode prog_10_method_27_code 98 = .ok (.aload_n 0, 1)) rfl ?_
    refine g_aload_n (by decide +kernel : decode prog_10_method_27_code 99 = .ok (.aload_n 0, 1)) rfl ?_
    refine g_iconst (v := nI 3) (by decide +kernel : decode prog_10_method_27_code 100 = .ok (.iconst 3, 1)) (by decide) ?_
    refine g_bipush (v := nI 97) (by decide +kernel : decode prog_10_method_27_code 101 = .ok (.bipush 97, 2)) (by decide) ?_
    refine g_bipush (v := nI 103) (by decide +kernel : decode prog_10_method_27_code 103 = .ok (.bipush 103, 2)) (by decide) ?_
    refine g_bipush (v := nI 101) (by decide +kernel : decode prog_10_method_27_code 105 = .ok (.bipush 101, 2)) (by decide) ?_
    refine g_bipush (v := nI 101) (by decide +kernel : decode prog_10_method_27_code 107 = .ok (.bipush 101, 2)) (by decide) ?_
    refine g_callVI [.int (nI 3), .int (nI 97), .int (nI 103), .int (nI 101), .int (nI 101)] (by decide +kernel : decode prog_10_method_27_code 109 = .ok (.invokevirtual 97, 3)) lk_Md_97 (m_isName σ f b hT (nI 1) (by omega) 3 2 97 103 101 101 rfl (by decide) (by decide) (by decide) (by decide) (by decide) (by decide) ) rfl rfl rfl rfl (Nat.le_of_ble_eq_true rfl) (Nat.le_of_ble_eq_true rfl) (fun r109 s109 h109 => ?_)
    obtain ⟨rfl, _⟩ := h109
    refine g_iload_n (by decide +kernel : decode prog_10_method_27_code 112 = .ok (.iload_n 2, 1)) rfl ?_
    refine g_iconst (v := nI 1) (by decide +kernel : decode prog_10_method_27_code 113 = .ok (.iconst 1, 1)) (by decide) ?_
    refine g_iaddN (by decide +kernel : decode prog_10_method_27_code 114 = .ok (.iadd, 1)) ?_
    refine g_bipush (v := nI 99) (by decide +kernel : decode prog_10_method_27_code 115 = .ok (.bipush 99, 2)) (by decide) ?_
    refine g_callVV [.int r109, .int (nI (19 + 6 * (nn f) + 1)), .int (nI 99)] (by decide +kernel : decode prog_10_method_27_code 117 = .ok (.invokevirtual 123, 3)) lk_Md_123 (m_perW σ f b hT r109 (nI (19 + 6 * (nn f) + 1)) 99 q) rfl rfl rfl rfl (Nat.le_of_ble_eq_true rfl) (Nat.le_of_ble_eq_true rfl) (fun s117 h117 => ?_)
    obtain rfl := h117
    refine g_aload_n (by decide +kernel : decode prog_10_method_27_code 120 = .ok (.aload_n 0, 1)) rfl ?_
    refine g_aload_n (by decide +kernel : decode prog_10_method_27_code 121 = .ok (.aload_n 0, 1)) rfl ?_
    refine g_iconst (v := nI 3) (by decide +kernel : decode prog_10_method_27_code 122 = .ok (.iconst 3, 1)) (by decide) ?_
    refine g_bipush (v := nI 119) (by decide +kernel : decode prog_10_method_27_code 123 = .ok (.bipush 119, 2)) (by decide) ?_
    refine g_bipush (v := nI 105) (by decide +kernel : decode prog_10_method_27_code 125 = .ok (.bipush 105, 2)) (by decide) ?_
    refine g_bipush (v := nI 116) (by decide +kernel : decode prog_10_method_27_code 127 = .ok (.bipush 116, 2)) (by decide) ?_
    refine g_bipush (v := nI 116) (by decide +kernel : decode prog_10_method_27_code 129 = .ok (.bipush 116, 2)) (by decide) ?_
    refine g_callVI [.int (nI 3), .int (nI 119), .int (nI 105), .int (nI 116), .int (nI 116)] (by decide +kernel : decode prog_10_method_27_code 131 = .ok (.invokevirtual 97, 3)) lk_Md_97 (m_isName σ f b hT (nI 1) (by omega) 3 2 119 105 116 116 rfl (by decide) (by decide) (by decide) (by decide) (by decide) (by decide) ) rfl rfl rfl rfl (Nat.le_of_ble_eq_true rfl) (Nat.le_of_ble_eq_true rfl) (fun r131 s131 h131 => ?_)
    obtain ⟨rfl, _⟩ := h131
    refine g_iload_n (by decide +kernel : decode prog_10_method_27_code 134 = .ok (.iload_n 2, 1)) rfl ?_
    refine g_iconst (v := nI 2) (by decide +kernel : decode prog_10_method_27_code 135 = .ok (.iconst 2, 1)) (by decide) ?_
    refine g_iaddN (by decide +kernel : decode prog_10_method_27_code 136 = .ok (.iadd, 1)) ?_
    refine g_bipush (v := nI 9) (by decide +kernel : decode prog_10_method_27_code 137 = .ok (.bipush 9, 2)) (by decide) ?_
    refine g_callVV [.int r131, .int (nI (19 + 6 * (nn f) + 2)), .int (nI 9)] (by decide +kernel : decode prog_10_method_27_code 139 = .ok (.invokevirtual 123, 3)) lk_Md_123 (m_perW σ f b hT r131 (nI (19 + 6 * (nn f) + 2)) 9 q) rfl rfl rfl rfl (Nat.le_of_ble_eq_true rfl) (Nat.le_of_ble_eq_true rfl) (fun s139 h139 => ?_)
    obtain rfl := h139
    refine g_aload_n (by decide +kernel : decode prog_10_method_27_code 142 = .ok (.aload_n 0, 1)) rfl ?_
    refine g_getI (by decide +kernel : decode prog_10_method_27_code 143 = .ok (.getfield 90, 3)) fl_Md_90.get rfl rfl ?_
    refine g_top (w := nI 1) (rfl) ?_
    refine g_if_neN (tgt := 179) (by decide +kernel : decode prog_10_method_27_code 146 = .ok (.ifCond .ne 33, 3)) (by decide) (by decide) (fun _ => ?_) (fun h => False.elim (by revert h; decide))
    refine g_vret hR (by decide +kernel : decode prog_10_method_27_code 179 = .ok (.return_, 1)) rfl ⟨rfl, ?_⟩
    have e9 : peK (Bt σ) t f k q = .inl q := by simp only [peK, atK, agK, wtK, seK, if_neg (show ¬ nn f < 8 by omega)]
    rw [e9]
    exact ⟨by omega, _, rfl⟩
  · refine g_iconst (v := nI 1) (by decide +kernel : decode prog_10_method_27_code 25 = .ok (.iconst 1, 1)) (by decide) ?_
    refine g_goto (tgt := 30) (by decide +kernel : decode prog_10_method_27_code 26 = .ok (.goto 4, 3)) (by decide) ?_
    obtain ⟨a30, e30, l30⟩ : ∃ z, nx (Bt σ) t q = z ∧ z ≤ t := ⟨_, rfl, (nx_b (by omega)).2.1⟩
    have j30 := en_b (B := Bt σ) l30
    have y30 := vl_b (B := Bt σ) (t := t) (q := a30)
    have k30 := kd_le (Bt σ) t a30
    refine g_callVV [.int (nI 1)] (by decide +kernel : decode prog_10_method_27_code 30 = .ok (.invokevirtual 111, 3)) lk_Md_111 (m_needs1 σ f b hT (by omega) e30) rfl rfl rfl rfl (Nat.le_of_ble_eq_true rfl) (Nat.le_of_ble_eq_true rfl) (fun s30 h30 => ?_)
    obtain rfl := h30
    refine g_aload_n (by decide +kernel : decode prog_10_method_27_code 33 = .ok (.aload_n 0, 1)) rfl ?_
    refine g_aload_n (by decide +kernel : decode prog_10_method_27_code 34 = .ok (.aload_n 0, 1)) rfl ?_
    refine g_bipush (v := nI 97) (by decide +kernel : decode prog_10_method_27_code 35 = .ok (.bipush 97, 2)) (by decide) ?_
    refine g_bipush (v := nI 116) (by decide +kernel : decode prog_10_method_27_code 37 = .ok (.bipush 116, 2)) (by decide) ?_
    refine g_callVI [.int (nI 97), .int (nI 116)] (by decide +kernel : decode prog_10_method_27_code 39 = .ok (.invokevirtual 119, 3)) lk_Md_119 (PB.of (m_isTwo σ f b hT (nI 0) (by omega) 97 116 (by decide) (by decide) ) nm_at.symm) rfl rfl rfl rfl (Nat.le_of_ble_eq_true rfl) (Nat.le_of_ble_eq_true rfl) (fun r39 s39 h39 => ?_)
    rcases h39 with ⟨rfl, ⟨rfl, w39⟩ | ⟨rfl, w39⟩⟩
    · obtain ⟨a42, e42, l42⟩ : ∃ z, nx (Bt σ) t a30 = z ∧ z ≤ t := ⟨_, rfl, (nx_b (by omega)).2.1⟩
      have j42 := en_b (B := Bt σ) l42
      have y42 := vl_b (B := Bt σ) (t := t) (q := a42)
      have k42 := kd_le (Bt σ) t a42
      refine g_callVV [.int (nI 1)] (by decide +kernel : decode prog_10_method_27_code 42 = .ok (.invokevirtual 111, 3)) lk_Md_111 (m_needs1 σ f b hT (by omega) e42) rfl rfl rfl rfl (Nat.le_of_ble_eq_true rfl) (Nat.le_of_ble_eq_true rfl) (fun s42 h42 => ?_)
      obtain rfl := h42
      refine g_aload_n (by decide +kernel : decode prog_10_method_27_code 45 = .ok (.aload_n 0, 1)) rfl ?_
      refine g_getI (by decide +kernel : decode prog_10_method_27_code 46 = .ok (.getfield 90, 3)) fl_Md_90.get rfl rfl ?_
      refine g_top (w := nI 0) (rfl) ?_
      refine g_if_neN (tgt := 78) (by decide +kernel : decode prog_10_method_27_code 49 = .ok (.ifCond .ne 29, 3)) (by decide) (by decide) (fun h => False.elim (by revert h; decide)) (fun _ => ?_)
      have z1 := z1 (by omega)
      have z2 := z2 (by omega)
      have z5 := z5 (by omega)
      refine g_aload_n (by decide +kernel : decode prog_10_method_27_code 52 = .ok (.aload_n 0, 1)) rfl ?_
      refine g_getR (by decide +kernel : decode prog_10_method_27_code 53 = .ok (.getfield 7, 3)) fl_Md_7 rfl rfl ?_
      refine g_iload_n (by decide +kernel : decode prog_10_method_27_code 56 = .ok (.iload_n 2, 1)) rfl ?_
      refine g_iload_n (by decide +kernel : decode prog_10_method_27_code 57 = .ok (.iload_n 1, 1)) rfl ?_
      refine g_iastore (a := 19 + 6 * (nn f)) (by decide +kernel : decode prog_10_method_27_code 58 = .ok (.iastore, 1)) rfl rfl (by omega) (by decide) ?_
      refine g_sto (mS_u1 _ _ _ _ _) ?_
      refine g_aload_n (by decide +kernel : decode prog_10_method_27_code 59 = .ok (.aload_n 0, 1)) rfl ?_
      refine g_getR (by decide +kernel : decode prog_10_method_27_code 60 = .ok (.getfield 7, 3)) fl_Md_7 rfl rfl ?_
      refine g_iload_n (by decide +kernel : decode prog_10_method_27_code 63 = .ok (.iload_n 2, 1)) rfl ?_
      refine g_iconst (v := nI 4) (by decide +kernel : decode prog_10_method_27_code 64 = .ok (.iconst 4, 1)) (by decide) ?_
      refine g_iaddN (by decide +kernel : decode prog_10_method_27_code 65 = .ok (.iadd, 1)) ?_
      refine g_iconst (v := nI 1) (by decide +kernel : decode prog_10_method_27_code 66 = .ok (.iconst 1, 1)) (by decide) ?_
      refine g_iastore (a := 19 + 6 * (nn f) + 4) (by decide +kernel : decode prog_10_method_27_code 67 = .ok (.iastore, 1)) rfl rfl (by omega) (by decide) ?_
      refine g_sto (mS_u1 _ _ _ _ _) ?_
      refine g_aload_n (by decide +kernel : decode prog_10_method_27_code 68 = .ok (.aload_n 0, 1)) rfl ?_
      refine g_getR (by decide +kernel : decode prog_10_method_27_code 69 = .ok (.getfield 7, 3)) fl_Md_7 rfl rfl ?_
      refine g_iconst (v := nI 0) (by decide +kernel : decode prog_10_method_27_code 72 = .ok (.iconst 0, 1)) (by decide) ?_
      refine g_dup2 (by decide +kernel : decode prog_10_method_27_code 73 = .ok (.dup2, 1)) rfl rfl ?_
      refine g_iaload (a := 0) (by decide +kernel : decode prog_10_method_27_code 74 = .ok (.iaload, 1)) rfl rfl (by decide) (by decide) ?_
      refine g_top (w := nI (nn f)) (show upd (upd f (19 + 6 * nn f) (nI k)) (19 + 6 * nn f + 4) (nI 1) 0 = nI (nn f) by rw [upd_n (by omega), upd_n (by omega)]; exact hI.n.1) ?_
      refine g_iconst (v := nI 1) (by decide +kernel : decode prog_10_method_27_code 75 = .ok (.iconst 1, 1)) (by decide) ?_
      refine g_iaddN (by decide +kernel : decode prog_10_method_27_code 76 = .ok (.iadd, 1)) ?_
      refine g_iastore (a := 0) (by decide +kernel : decode prog_10_method_27_code 77 = .ok (.iastore, 1)) rfl rfl (by decide) (by decide) ?_
      refine g_sto (mS_u1 _ _ _ _ _) ?_
      refine g_aload_n (by decide +kernel : decode prog_10_method_27_code 78 = .ok (.aload_n 0, 1)) rfl ?_
      refine g_aload_n (by decide +kernel : decode prog_10_method_27_code 79 = .ok (.aload_n 0, 1)) rfl ?_
      refine g_getI (by decide +kernel : decode prog_10_method_27_code 80 = .ok (.getfield 90, 3)) fl_Md_90.get rfl rfl ?_
      refine g_top (w := nI 0) (rfl) ?_
      refine g_if_eqN (tgt := 90) (by decide +kernel : decode prog_10_method_27_code 83 = .ok (.ifCond .eq 7, 3)) (by decide) (by decide) (fun _ => ?_) (fun h => False.elim (by revert h; decide))
      refine g_iload_n (by decide +kernel : decode prog_10_method_27_code 90 = .ok (.iload_n 2, 1)) rfl ?_
      refine g_iconst (v := nI 3) (by decide +kernel : decode prog_10_method_27_code 91 = .ok (.iconst 3, 1)) (by decide) ?_
      refine g_iaddN (by decide +kernel : decode prog_10_method_27_code 92 = .ok (.iadd, 1)) ?_
      refine g_bipush (v := nI 11) (by decide +kernel : decode prog_10_method_27_code 93 = .ok (.bipush 11, 2)) (by decide) ?_
      refine g_callVV [.int (nI (19 + 6 * (nn f) + 3)), .int (nI 11)] (by decide +kernel : decode prog_10_method_27_code 95 = .ok (.invokevirtual 115, 3)) lk_Md_115 (m_num σ (upd (upd (upd f (19 + 6 * (nn f)) (nI k)) (19 + 6 * (nn f) + 4) (nI 1)) 0 (nI (nn f + 1))) b hT (19 + 6 * (nn f) + 3) 11 (by omega) (by omega) (by omega)) rfl rfl rfl rfl (Nat.le_of_ble_eq_true rfl) (Nat.le_of_ble_eq_true rfl) (fun s95 h95 => ?_)
      rcases h95 with ⟨i95, rfl⟩ | ⟨i95, rfl⟩
      · obtain ⟨a95, e95, l95⟩ : ∃ z, nx (Bt σ) t a42 = z ∧ z ≤ t := ⟨_, rfl, (nx_b (by omega)).2.1⟩
        rw [e95]
        have j95 := en_b (B := Bt σ) l95
        have y95 := vl_b (B := Bt σ) (t := t) (q := a95)
        have k95 := kd_le (Bt σ) t a95
        refine g_aload_n (by decide +kernel : decode prog_10_method_27_code 98 = .ok (.aload_n 0, 1)) rfl ?_
        refine g_aload_n (by decide +kernel : decode prog_10_method_27_code 99 = .ok (.aload_n 0, 1)) rfl ?_
        refine g_iconst (v := nI 3) (by decide +kernel : decode prog_10_method_27_code 100 = .ok (.iconst 3, 1)) (by decide) ?_
        refine g_bipush (v := nI 97) (by decide +kernel : decode prog_10_method_27_code 101 = .ok (.bipush 97, 2)) (by decide) ?_
        refine g_bipush (v := nI 103) (by decide +kernel : decode prog_10_method_27_code 103 = .ok (.bipush 103, 2)) (by decide) ?_
        refine g_bipush (v := nI 101) (by decide +kernel : decode prog_10_method_27_code 105 = .ok (.bipush 101, 2)) (by decide) ?_
        refine g_bipush (v := nI 101) (by decide +kernel : decode prog_10_method_27_code 107 = .ok (.bipush 101, 2)) (by decide) ?_
        refine g_callVI [.int (nI 3), .int (nI 97), .int (nI 103), .int (nI 101), .int (nI 101)] (by decide +kernel : decode prog_10_method_27_code 109 = .ok (.invokevirtual 97, 3)) lk_Md_97 (PB.of (m_isName σ (upd (upd (upd (upd f (19 + 6 * (nn f)) (nI k)) (19 + 6 * (nn f) + 4) (nI 1)) 0 (nI (nn f + 1))) (19 + 6 * (nn f) + 3) (nI (vl (Bt σ) t a42))) b hT (nI 0) (by omega) 3 2 97 103 101 101 rfl (by decide) (by decide) (by decide) (by decide) (by decide) (by decide) ) nm3_age) rfl rfl rfl rfl (Nat.le_of_ble_eq_true rfl) (Nat.le_of_ble_eq_true rfl) (fun r109 s109 h109 => ?_)
        rcases h109 with ⟨rfl, ⟨rfl, w109⟩ | ⟨rfl, w109⟩⟩
        · refine g_iload_n (by decide +kernel : decode prog_10_method_27_code 112 = .ok (.iload_n 2, 1)) rfl ?_
          refine g_iconst (v := nI 1) (by decide +kernel : decode prog_10_method_27_code 113 = .ok (.iconst 1, 1)) (by decide) ?_
          refine g_iaddN (by decide +kernel : decode prog_10_method_27_code 114 = .ok (.iadd, 1)) ?_
          refine g_bipush (v := nI 99) (by decide +kernel : decode prog_10_method_27_code 115 = .ok (.bipush 99, 2)) (by decide) ?_
          obtain ⟨b117, d117, l117⟩ : ∃ z, nx (Bt σ) t a95 = z ∧ z ≤ t := ⟨_, rfl, (nx_b (by omega)).2.1⟩
          have v117 := vl_b (B := Bt σ) (t := t) (q := b117)
          refine g_callVV [.int (nI 1), .int (nI (19 + 6 * (nn f) + 1)), .int (nI 99)] (by decide +kernel : decode prog_10_method_27_code 117 = .ok (.invokevirtual 123, 3)) lk_Md_123 (m_per1 σ (upd (upd (upd (upd f (19 + 6 * (nn f)) (nI k)) (19 + 6 * (nn f) + 4) (nI 1)) 0 (nI (nn f + 1))) (19 + 6 * (nn f) + 3) (nI (vl (Bt σ) t a42))) b hT (19 + 6 * (nn f) + 1) 99 (by omega) (by omega) (by omega) d117) rfl rfl rfl rfl (Nat.le_of_ble_eq_true rfl) (Nat.le_of_ble_eq_true rfl) (fun s117 h117 => ?_)
          rcases h117 with ⟨i117, rfl⟩ | ⟨i117, rfl⟩
          · obtain ⟨a117, e117, m117⟩ : ∃ z, nx (Bt σ) t b117 = z ∧ z ≤ t := ⟨_, rfl, (nx_b (by omega)).2.1⟩
            rw [e117]
            have j117 := en_b (B := Bt σ) m117
            have y117 := vl_b (B := Bt σ) (t := t) (q := a117)
            have k117 := kd_le (Bt σ) t a117
            refine g_aload_n (by decide +kernel : decode prog_10_method_27_code 120 = .ok (.aload_n 0, 1)) rfl ?_
            refine g_aload_n (by decide +kernel : decode prog_10_method_27_code 121 = .ok (.aload_n 0, 1)) rfl ?_
            refine g_iconst (v := nI 3) (by decide +kernel : decode prog_10_method_27_code 122 = .ok (.iconst 3, 1)) (by decide) ?_
            refine g_bipush (v := nI 119) (by decide +kernel : decode prog_10_method_27_code 123 = .ok (.bipush 119, 2)) (by decide) ?_
            refine g_bipush (v := nI 105) (by decide +kernel : decode prog_10_method_27_code 125 = .ok (.bipush 105, 2)) (by decide) ?_
            refine g_bipush (v := nI 116) (by decide +kernel : decode prog_10_method_27_code 127 = .ok (.bipush 116, 2)) (by decide) ?_
            refine g_bipush (v := nI 116) (by decide +kernel : decode prog_10_method_27_code 129 = .ok (.bipush 116, 2)) (by decide) ?_
            refine g_callVI [.int (nI 3), .int (nI 119), .int (nI 105), .int (nI 116), .int (nI 116)] (by decide +kernel : decode prog_10_method_27_code 131 = .ok (.invokevirtual 97, 3)) lk_Md_97 (PB.of (m_isName σ (upd (upd (upd (upd (upd f (19 + 6 * (nn f)) (nI k)) (19 + 6 * (nn f) + 4) (nI 1)) 0 (nI (nn f + 1))) (19 + 6 * (nn f) + 3) (nI (vl (Bt σ) t a42))) (19 + 6 * (nn f) + 1) (nI (vl (Bt σ) t b117))) b hT (nI 0) (by omega) 3 2 119 105 116 116 rfl (by decide) (by decide) (by decide) (by decide) (by decide) (by decide) ) nm3_wit) rfl rfl rfl rfl (Nat.le_of_ble_eq_true rfl) (Nat.le_of_ble_eq_true rfl) (fun r131 s131 h131 => ?_)
            rcases h131 with ⟨rfl, ⟨rfl, w131⟩ | ⟨rfl, w131⟩⟩
            · refine g_iload_n (by decide +kernel : decode prog_10_method_27_code 134 = .ok (.iload_n 2, 1)) rfl ?_
              refine g_iconst (v := nI 2) (by decide +kernel : decode prog_10_method_27_code 135 = .ok (.iconst 2, 1)) (by decide) ?_
              refine g_iaddN (by decide +kernel : decode prog_10_method_27_code 136 = .ok (.iadd, 1)) ?_
              refine g_bipush (v := nI 9) (by decide +kernel : decode prog_10_method_27_code 137 = .ok (.bipush 9, 2)) (by decide) ?_
              obtain ⟨b139, d139, l139⟩ : ∃ z, nx (Bt σ) t a117 = z ∧ z ≤ t := ⟨_, rfl, (nx_b (by omega)).2.1⟩
              have v139 := vl_b (B := Bt σ) (t := t) (q := b139)
              refine g_callVV [.int (nI 1), .int (nI (19 + 6 * (nn f) + 2)), .int (nI 9)] (by decide +kernel : decode prog_10_method_27_code 139 = .ok (.invokevirtual 123, 3)) lk_Md_123 (m_per1 σ (upd (upd (upd (upd (upd f (19 + 6 * (nn f)) (nI k)) (19 + 6 * (nn f) + 4) (nI 1)) 0 (nI (nn f + 1))) (19 + 6 * (nn f) + 3) (nI (vl (Bt σ) t a42))) (19 + 6 * (nn f) + 1) (nI (vl (Bt σ) t b117))) b hT (19 + 6 * (nn f) + 2) 9 (by omega) (by omega) (by omega) d139) rfl rfl rfl rfl (Nat.le_of_ble_eq_true rfl) (Nat.le_of_ble_eq_true rfl) (fun s139 h139 => ?_)
              rcases h139 with ⟨i139, rfl⟩ | ⟨i139, rfl⟩
              · obtain ⟨a139, e139, m139⟩ : ∃ z, nx (Bt σ) t b139 = z ∧ z ≤ t := ⟨_, rfl, (nx_b (by omega)).2.1⟩
                rw [e139]
                have j139 := en_b (B := Bt σ) m139
                have y139 := vl_b (B := Bt σ) (t := t) (q := a139)
                have k139 := kd_le (Bt σ) t a139
                refine g_aload_n (by decide +kernel : decode prog_10_method_27_code 142 = .ok (.aload_n 0, 1)) rfl ?_
                refine g_getI (by decide +kernel : decode prog_10_method_27_code 143 = .ok (.getfield 90, 3)) fl_Md_90.get rfl rfl ?_
                refine g_top (w := nI 0) (rfl) ?_
                refine g_if_neN (tgt := 179) (by decide +kernel : decode prog_10_method_27_code 146 = .ok (.ifCond .ne 33, 3)) (by decide) (by decide) (fun h => False.elim (by revert h; decide)) (fun _ => ?_)
                refine g_aload_n (by decide +kernel : decode prog_10_method_27_code 149 = .ok (.aload_n 0, 1)) rfl ?_
                refine g_bipush (v := nI 115) (by decide +kernel : decode prog_10_method_27_code 150 = .ok (.bipush 115, 2)) (by decide) ?_
                refine g_bipush (v := nI 101) (by decide +kernel : decode prog_10_method_27_code 152 = .ok (.bipush 101, 2)) (by decide) ?_
                refine g_bipush (v := nI 101) (by decide +kernel : decode prog_10_method_27_code 154 = .ok (.bipush 101, 2)) (by decide) ?_
                refine g_bipush (v := nI 107) (by decide +kernel : decode prog_10_method_27_code 156 = .ok (.bipush 107, 2)) (by decide) ?_
                refine g_bipush (v := nI 115) (by decide +kernel : decode prog_10_method_27_code 158 = .ok (.bipush 115, 2)) (by decide) ?_
                refine g_callVI [.int (nI 115), .int (nI 101), .int (nI 101), .int (nI 107), .int (nI 115)] (by decide +kernel : decode prog_10_method_27_code 160 = .ok (.invokevirtual 101, 3)) lk_Md_101 (PB.of (m_isFive σ (upd (upd (upd (upd (upd (upd f (19 + 6 * (nn f)) (nI k)) (19 + 6 * (nn f) + 4) (nI 1)) 0 (nI (nn f + 1))) (19 + 6 * (nn f) + 3) (nI (vl (Bt σ) t a42))) (19 + 6 * (nn f) + 1) (nI (vl (Bt σ) t b117))) (19 + 6 * (nn f) + 2) (nI (vl (Bt σ) t b139))) b hT (nI 0) (by omega) 115 101 101 107 115 (by decide) (by decide) (by decide) (by decide) (by decide) ) nm_seeks.symm) rfl rfl rfl rfl (Nat.le_of_ble_eq_true rfl) (Nat.le_of_ble_eq_true rfl) (fun r160 s160 h160 => ?_)
                rcases h160 with ⟨rfl, ⟨rfl, w160⟩ | ⟨rfl, w160⟩⟩
                · refine g_if_eqN (tgt := 179) (by decide +kernel : decode prog_10_method_27_code 163 = .ok (.ifCond .eq 16, 3)) (by decide) (by decide) (fun h => False.elim (by revert h; decide)) (fun _ => ?_)
                  refine g_aload_n (by decide +kernel : decode prog_10_method_27_code 166 = .ok (.aload_n 0, 1)) rfl ?_
                  refine g_getR (by decide +kernel : decode prog_10_method_27_code 167 = .ok (.getfield 7, 3)) fl_Md_7 rfl rfl ?_
                  refine g_iload_n (by decide +kernel : decode prog_10_method_27_code 170 = .ok (.iload_n 2, 1)) rfl ?_
                  refine g_iconst (v := nI 4) (by decide +kernel : decode prog_10_method_27_code 171 = .ok (.iconst 4, 1)) (by decide) ?_
                  refine g_iaddN (by decide +kernel : decode prog_10_method_27_code 172 = .ok (.iadd, 1)) ?_
                  refine g_iconst (v := nI 0) (by decide +kernel : decode prog_10_method_27_code 173 = .ok (.iconst 0, 1)) (by decide) ?_
                  refine g_iastore (a := 19 + 6 * (nn f) + 4) (by decide +kernel : decode prog_10_method_27_code 174 = .ok (.iastore, 1)) rfl rfl (by omega) (by decide) ?_
                  refine g_sto (mS_u1 _ _ _ _ _) ?_
                  refine g_aload_n (by decide +kernel : decode prog_10_method_27_code 175 = .ok (.aload_n 0, 1)) rfl ?_
                  obtain ⟨a176, e176, l176⟩ : ∃ z, nx (Bt σ) t a139 = z ∧ z ≤ t := ⟨_, rfl, (nx_b (by omega)).2.1⟩
                  have j176 := en_b (B := Bt σ) l176
                  have y176 := vl_b (B := Bt σ) (t := t) (q := a176)
                  have k176 := kd_le (Bt σ) t a176
                  refine g_callVV [] (by decide +kernel : decode prog_10_method_27_code 176 = .ok (.invokevirtual 94, 3)) lk_Md_94 (m_nextT σ (upd (upd (upd (upd (upd (upd (upd f (19 + 6 * (nn f)) (nI k)) (19 + 6 * (nn f) + 4) (nI 1)) 0 (nI (nn f + 1))) (19 + 6 * (nn f) + 3) (nI (vl (Bt σ) t a42))) (19 + 6 * (nn f) + 1) (nI (vl (Bt σ) t b117))) (19 + 6 * (nn f) + 2) (nI (vl (Bt σ) t b139))) (19 + 6 * (nn f) + 4) (nI 0)) b hT (by omega) e176) rfl rfl rfl rfl (Nat.le_of_ble_eq_true rfl) (Nat.le_of_ble_eq_true rfl) (fun s176 h176 => ?_)
                  obtain rfl := h176
                  refine g_vret hR (by decide +kernel : decode prog_10_method_27_code 179 = .ok (.return_, 1)) rfl ⟨rfl, ?_⟩
                  refine PK_ok (f := f) (k := k) (q' := a176) (h := 0) (a := vl (Bt σ) t b117) (w := vl (Bt σ) t b139) (p := vl (Bt σ) t a42) (by omega) ?_ ?_
                  · simp only [peK, atK, agK, wtK, seK, if_pos (show nn f < 8 by omega), e30, if_pos w39, e42, if_pos i95, e95, if_pos w109, d117, if_pos i117, e117, if_pos w131, d139, if_pos i139, e139, if_pos w160, e176]
                  · refine adm_x ?_ ?_ ?_ ?_ ?_ ?_ ?_ ?_
                    all_goals first | (intro j j0 j1; simp (disch := omega) only [upd_n]; done) | (simp [upd, z1, z2, z5]; done)
                · refine g_if_eqN (tgt := 179) (by decide +kernel : decode prog_10_method_27_code 163 = .ok (.ifCond .eq 16, 3)) (by decide) (by decide) (fun _ => ?_) (fun h => False.elim (by revert h; decide))
                  refine g_vret hR (by decide +kernel : decode prog_10_method_27_code 179 = .ok (.return_, 1)) rfl ⟨rfl, ?_⟩
                  refine PK_ok (f := f) (k := k) (q' := a139) (h := 1) (a := vl (Bt σ) t b117) (w := vl (Bt σ) t b139) (p := vl (Bt σ) t a42) (by omega) ?_ ?_
                  · simp only [peK, atK, agK, wtK, seK, if_pos (show nn f < 8 by omega), e30, if_pos w39, e42, if_pos i95, e95, if_pos w109, d117, if_pos i117, e117, if_pos w131, d139, if_pos i139, e139, if_neg w160]
                  · refine adm_x ?_ ?_ ?_ ?_ ?_ ?_ ?_ ?_
                    all_goals first | (intro j j0 j1; simp (disch := omega) only [upd_n]; done) | (simp [upd, z1, z2, z5]; done)
              · refine g_aload_n (by decide +kernel : decode prog_10_method_27_code 142 = .ok (.aload_n 0, 1)) rfl ?_
                refine g_getI (by decide +kernel : decode prog_10_method_27_code 143 = .ok (.getfield 90, 3)) fl_Md_90.get rfl rfl ?_
                refine g_top (w := nI 1) (rfl) ?_
                refine g_if_neN (tgt := 179) (by decide +kernel : decode prog_10_method_27_code 146 = .ok (.ifCond .ne 33, 3)) (by decide) (by decide) (fun _ => ?_) (fun h => False.elim (by revert h; decide))
                refine g_vret hR (by decide +kernel : decode prog_10_method_27_code 179 = .ok (.return_, 1)) rfl ⟨rfl, ?_⟩
                have e9 : peK (Bt σ) t f k q = .inl b139 := by simp only [peK, atK, agK, wtK, seK, if_pos (show nn f < 8 by omega), e30, if_pos w39, e42, if_pos i95, e95, if_pos w109, d117, if_pos i117, e117, if_pos w131, d139, if_neg i139]
                rw [e9]
                exact ⟨by omega, _, rfl⟩
            · refine g_iload_n (by decide +kernel : decode prog_10_method_27_code 134 = .ok (.iload_n 2, 1)) rfl ?_
              refine g_iconst (v := nI 2) (by decide +kernel : decode prog_10_method_27_code 135 = .ok (.iconst 2, 1)) (by decide) ?_
              refine g_iaddN (by decide +kernel : decode prog_10_method_27_code 136 = .ok (.iadd, 1)) ?_
              refine g_bipush (v := nI 9) (by decide +kernel : decode prog_10_method_27_code 137 = .ok (.bipush 9, 2)) (by decide) ?_
              refine g_callVV [.int (nI 0), .int (nI (19 + 6 * (nn f) + 2)), .int (nI 9)] (by decide +kernel : decode prog_10_method_27_code 139 = .ok (.invokevirtual 123, 3)) lk_Md_123 (m_per0 σ (upd (upd (upd (upd (upd f (19 + 6 * (nn f)) (nI k)) (19 + 6 * (nn f) + 4) (nI 1)) 0 (nI (nn f + 1))) (19 + 6 * (nn f) + 3) (nI (vl (Bt σ) t a42))) (19 + 6 * (nn f) + 1) (nI (vl (Bt σ) t b117))) b hT (nI (19 + 6 * (nn f) + 2)) 9 a117) rfl rfl rfl rfl (Nat.le_of_ble_eq_true rfl) (Nat.le_of_ble_eq_true rfl) (fun s139 h139 => ?_)
              obtain rfl := h139
              refine g_aload_n (by decide +kernel : decode prog_10_method_27_code 142 = .ok (.aload_n 0, 1)) rfl ?_
              refine g_getI (by decide +kernel : decode prog_10_method_27_code 143 = .ok (.getfield 90, 3)) fl_Md_90.get rfl rfl ?_
              refine g_top (w := nI 0) (rfl) ?_
              refine g_if_neN (tgt := 179) (by decide +kernel : decode prog_10_method_27_code 146 = .ok (.ifCond .ne 33, 3)) (by decide) (by decide) (fun h => False.elim (by revert h; decide)) (fun _ => ?_)
              refine g_aload_n (by decide +kernel : decode prog_10_method_27_code 149 = .ok (.aload_n 0, 1)) rfl ?_
              refine g_bipush (v := nI 115) (by decide +kernel : decode prog_10_method_27_code 150 = .ok (.bipush 115, 2)) (by decide) ?_
              refine g_bipush (v := nI 101) (by decide +kernel : decode prog_10_method_27_code 152 = .ok (.bipush 101, 2)) (by decide) ?_
              refine g_bipush (v := nI 101) (by decide +kernel : decode prog_10_method_27_code 154 = .ok (.bipush 101, 2)) (by decide) ?_
              refine g_bipush (v := nI 107) (by decide +kernel : decode prog_10_method_27_code 156 = .ok (.bipush 107, 2)) (by decide) ?_
              refine g_bipush (v := nI 115) (by decide +kernel : decode prog_10_method_27_code 158 = .ok (.bipush 115, 2)) (by decide) ?_
              refine g_callVI [.int (nI 115), .int (nI 101), .int (nI 101), .int (nI 107), .int (nI 115)] (by decide +kernel : decode prog_10_method_27_code 160 = .ok (.invokevirtual 101, 3)) lk_Md_101 (PB.of (m_isFive σ (upd (upd (upd (upd (upd f (19 + 6 * (nn f)) (nI k)) (19 + 6 * (nn f) + 4) (nI 1)) 0 (nI (nn f + 1))) (19 + 6 * (nn f) + 3) (nI (vl (Bt σ) t a42))) (19 + 6 * (nn f) + 1) (nI (vl (Bt σ) t b117))) b hT (nI 0) (by omega) 115 101 101 107 115 (by decide) (by decide) (by decide) (by decide) (by decide) ) nm_seeks.symm) rfl rfl rfl rfl (Nat.le_of_ble_eq_true rfl) (Nat.le_of_ble_eq_true rfl) (fun r160 s160 h160 => ?_)
              rcases h160 with ⟨rfl, ⟨rfl, w160⟩ | ⟨rfl, w160⟩⟩
              · refine g_if_eqN (tgt := 179) (by decide +kernel : decode prog_10_method_27_code 163 = .ok (.ifCond .eq 16, 3)) (by decide) (by decide) (fun h => False.elim (by revert h; decide)) (fun _ => ?_)
                refine g_aload_n (by decide +kernel : decode prog_10_method_27_code 166 = .ok (.aload_n 0, 1)) rfl ?_
                refine g_getR (by decide +kernel : decode prog_10_method_27_code 167 = .ok (.getfield 7, 3)) fl_Md_7 rfl rfl ?_
                refine g_iload_n (by decide +kernel : decode prog_10_method_27_code 170 = .ok (.iload_n 2, 1)) rfl ?_
                refine g_iconst (v := nI 4) (by decide +kernel : decode prog_10_method_27_code 171 = .ok (.iconst 4, 1)) (by decide) ?_
                refine g_iaddN (by decide +kernel : decode prog_10_method_27_code 172 = .ok (.iadd, 1)) ?_
                refine g_iconst (v := nI 0) (by decide +kernel : decode prog_10_method_27_code 173 = .ok (.iconst 0, 1)) (by decide) ?_
                refine g_iastore (a := 19 + 6 * (nn f) + 4) (by decide +kernel : decode prog_10_method_27_code 174 = .ok (.iastore, 1)) rfl rfl (by omega) (by decide) ?_
                refine g_sto (mS_u1 _ _ _ _ _) ?_
                refine g_aload_n (by decide +kernel : decode prog_10_method_27_code 175 = .ok (.aload_n 0, 1)) rfl ?_
                obtain ⟨a176, e176, l176⟩ : ∃ z, nx (Bt σ) t a117 = z ∧ z ≤ t := ⟨_, rfl, (nx_b (by omega)).2.1⟩
                have j176 := en_b (B := Bt σ) l176
                have y176 := vl_b (B := Bt σ) (t := t) (q := a176)
                have k176 := kd_le (Bt σ) t a176
                refine g_callVV [] (by decide +kernel : decode prog_10_method_27_code 176 = .ok (.invokevirtual 94, 3)) lk_Md_94 (m_nextT σ (upd (upd (upd (upd (upd (upd f (19 + 6 * (nn f)) (nI k)) (19 + 6 * (nn f) + 4) (nI 1)) 0 (nI (nn f + 1))) (19 + 6 * (nn f) + 3) (nI (vl (Bt σ) t a42))) (19 + 6 * (nn f) + 1) (nI (vl (Bt σ) t b117))) (19 + 6 * (nn f) + 4) (nI 0)) b hT (by omega) e176) rfl rfl rfl rfl (Nat.le_of_ble_eq_true rfl) (Nat.le_of_ble_eq_true rfl) (fun s176 h176 => ?_)
                obtain rfl := h176
                refine g_vret hR (by decide +kernel : decode prog_10_method_27_code 179 = .ok (.return_, 1)) rfl ⟨rfl, ?_⟩
                refine PK_ok (f := f) (k := k) (q' := a176) (h := 0) (a := vl (Bt σ) t b117) (w := 0) (p := vl (Bt σ) t a42) (by omega) ?_ ?_
                · simp only [peK, atK, agK, wtK, seK, if_pos (show nn f < 8 by omega), e30, if_pos w39, e42, if_pos i95, e95, if_pos w109, d117, if_pos i117, e117, if_neg w131, if_pos w160, e176]
                · refine adm_x ?_ ?_ ?_ ?_ ?_ ?_ ?_ ?_
                  all_goals first | (intro j j0 j1; simp (disch := omega) only [upd_n]; done) | (simp [upd, z1, z2, z5]; done)
              · refine g_if_eqN (tgt := 179) (by decide +kernel : decode prog_10_method_27_code 163 = .ok (.ifCond .eq 16, 3)) (by decide) (by decide) (fun _ => ?_) (fun h => False.elim (by revert h; decide))
                refine g_vret hR (by decide +kernel : decode prog_10_method_27_code 179 = .ok (.return_, 1)) rfl ⟨rfl, ?_⟩
                refine PK_ok (f := f) (k := k) (q' := a117) (h := 1) (a := vl (Bt σ) t b117) (w := 0) (p := vl (Bt σ) t a42) (by omega) ?_ ?_
                · simp only [peK, atK, agK, wtK, seK, if_pos (show nn f < 8 by omega), e30, if_pos w39, e42, if_pos i95, e95, if_pos w109, d117, if_pos i117, e117, if_neg w131, if_neg w160]
                · refine adm_x ?_ ?_ ?_ ?_ ?_ ?_ ?_ ?_
                  all_goals first | (intro j j0 j1; simp (disch := omega) only [upd_n]; done) | (simp [upd, z1, z2, z5]; done)
          · refine g_aload_n (by decide +kernel : decode prog_10_method_27_code 120 = .ok (.aload_n 0, 1)) rfl ?_
            refine g_aload_n (by decide +kernel : decode prog_10_method_27_code 121 = .ok (.aload_n 0, 1)) rfl ?_
            refine g_iconst (v := nI 3) (by decide +kernel : decode prog_10_method_27_code 122 = .ok (.iconst 3, 1)) (by decide) ?_
            refine g_bipush (v := nI 119) (by decide +kernel : decode prog_10_method_27_code 123 = .ok (.bipush 119, 2)) (by decide) ?_
            refine g_bipush (v := nI 105) (by decide +kernel : decode prog_10_method_27_code 125 = .ok (.bipush 105, 2)) (by decide) ?_
            refine g_bipush (v := nI 116) (by decide +kernel : decode prog_10_method_27_code 127 = .ok (.bipush 116, 2)) (by decide) ?_
            refine g_bipush (v := nI 116) (by decide +kernel : decode prog_10_method_27_code 129 = .ok (.bipush 116, 2)) (by decide) ?_
            refine g_callVI [.int (nI 3), .int (nI 119), .int (nI 105), .int (nI 116), .int (nI 116)] (by decide +kernel : decode prog_10_method_27_code 131 = .ok (.invokevirtual 97, 3)) lk_Md_97 (m_isName σ (upd (upd (upd (upd f (19 + 6 * (nn f)) (nI k)) (19 + 6 * (nn f) + 4) (nI 1)) 0 (nI (nn f + 1))) (19 + 6 * (nn f) + 3) (nI (vl (Bt σ) t a42))) b hT (nI 1) (by omega) 3 2 119 105 116 116 rfl (by decide) (by decide) (by decide) (by decide) (by decide) (by decide) ) rfl rfl rfl rfl (Nat.le_of_ble_eq_true rfl) (Nat.le_of_ble_eq_true rfl) (fun r131 s131 h131 => ?_)
            obtain ⟨rfl, _⟩ := h131
            refine g_iload_n (by decide +kernel : decode prog_10_method_27_code 134 = .ok (.iload_n 2, 1)) rfl ?_
            refine g_iconst (v := nI 2) (by decide +kernel : decode prog_10_method_27_code 135 = .ok (.iconst 2, 1)) (by decide) ?_
            refine g_iaddN (by decide +kernel : decode prog_10_method_27_code 136 = .ok (.iadd, 1)) ?_
            refine g_bipush (v := nI 9) (by decide +kernel : decode prog_10_method_27_code 137 = .ok (.bipush 9, 2)) (by decide) ?_
            refine g_callVV [.int r131, .int (nI (19 + 6 * (nn f) + 2)), .int (nI 9)] (by decide +kernel : decode prog_10_method_27_code 139 = .ok (.invokevirtual 123, 3)) lk_Md_123 (m_perW σ (upd (upd (upd (upd f (19 + 6 * (nn f)) (nI k)) (19 + 6 * (nn f) + 4) (nI 1)) 0 (nI (nn f + 1))) (19 + 6 * (nn f) + 3) (nI (vl (Bt σ) t a42))) b hT r131 (nI (19 + 6 * (nn f) + 2)) 9 b117) rfl rfl rfl rfl (Nat.le_of_ble_eq_true rfl) (Nat.le_of_ble_eq_true rfl) (fun s139 h139 => ?_)
            obtain rfl := h139
            refine g_aload_n (by decide +kernel : decode prog_10_method_27_code 142 = .ok (.aload_n 0, 1)) rfl ?_
            refine g_getI (by decide +kernel : decode prog_10_method_27_code 143 = .ok (.getfield 90, 3)) fl_Md_90.get rfl rfl ?_
            refine g_top (w := nI 1) (rfl) ?_
            refine g_if_neN (tgt := 179) (by decide +kernel : decode prog_10_method_27_code 146 = .ok (.ifCond .ne 33, 3)) (by decide) (by decide) (fun _ => ?_) (fun h => False.elim (by revert h; decide))
            refine g_vret hR (by decide +kernel : decode prog_10_method_27_code 179 = .ok (.return_, 1)) rfl ⟨rfl, ?_⟩
            have e9 : peK (Bt σ) t f k q = .inl b117 := by simp only [peK, atK, agK, wtK, seK, if_pos (show nn f < 8 by omega), e30, if_pos w39, e42, if_pos i95, e95, if_pos w109, d117, if_neg i117]
            rw [e9]
            exact ⟨by omega, _, rfl⟩
        · refine g_iload_n (by decide +kernel : decode prog_10_method_27_code 112 = .ok (.iload_n 2, 1)) rfl ?_
          refine g_iconst (v := nI 1) (by decide +kernel : decode prog_10_method_27_code 113 = .ok (.iconst 1, 1)) (by decide) ?_
          refine g_iaddN (by decide +kernel : decode prog_10_method_27_code 114 = .ok (.iadd, 1)) ?_
          refine g_bipush (v := nI 99) (by decide +kernel : decode prog_10_method_27_code 115 = .ok (.bipush 99, 2)) (by decide) ?_
          refine g_callVV [.int (nI 0), .int (nI (19 + 6 * (nn f) + 1)), .int (nI 99)] (by decide +kernel : decode prog_10_method_27_code 117 = .ok (.invokevirtual 123, 3)) lk_Md_123 (m_per0 σ (upd (upd (upd (upd f (19 + 6 * (nn f)) (nI k)) (19 + 6 * (nn f) + 4) (nI 1)) 0 (nI (nn f + 1))) (19 + 6 * (nn f) + 3) (nI (vl (Bt σ) t a42))) b hT (nI (19 + 6 * (nn f) + 1)) 99 a95) rfl rfl rfl rfl (Nat.le_of_ble_eq_true rfl) (Nat.le_of_ble_eq_true rfl) (fun s117 h117 => ?_)
          obtain rfl := h117
          refine g_aload_n (by decide +kernel : decode prog_10_method_27_code 120 = .ok (.aload_n 0, 1)) rfl ?_
          refine g_aload_n (by decide +kernel : decode prog_10_method_27_code 121 = .ok (.aload_n 0, 1)) rfl ?_
          refine g_iconst (v := nI 3) (by decide +kernel : decode prog_10_method_27_code 122 = .ok (.iconst 3, 1)) (by decide) ?_
          refine g_bipush (v := nI 119) (by decide +kernel : decode prog_10_method_27_code 123 = .ok (.bipush 119, 2)) (by decide) ?_
          refine g_bipush (v := nI 105) (by decide +kernel : decode prog_10_method_27_code 125 = .ok (.bipush 105, 2)) (by decide) ?_
          refine g_bipush (v := nI 116) (by decide +kernel : decode prog_10_method_27_code 127 = .ok (.bipush 116, 2)) (by decide) ?_
          refine g_bipush (v := nI 116) (by decide +kernel : decode prog_10_method_27_code 129 = .ok (.bipush 116, 2)) (by decide) ?_
          refine g_callVI [.int (nI 3), .int (nI 119), .int (nI 105), .int (nI 116), .int (nI 116)] (by decide +kernel : decode prog_10_method_27_code 131 = .ok (.invokevirtual 97, 3)) lk_Md_97 (PB.of (m_isName σ (upd (upd (upd (upd f (19 + 6 * (nn f)) (nI k)) (19 + 6 * (nn f) + 4) (nI 1)) 0 (nI (nn f + 1))) (19 + 6 * (nn f) + 3) (nI (vl (Bt σ) t a42))) b hT (nI 0) (by omega) 3 2 119 105 116 116 rfl (by decide) (by decide) (by decide) (by decide) (by decide) (by decide) ) nm3_wit) rfl rfl rfl rfl (Nat.le_of_ble_eq_true rfl) (Nat.le_of_ble_eq_true rfl) (fun r131 s131 h131 => ?_)
          rcases h131 with ⟨rfl, ⟨rfl, w131⟩ | ⟨rfl, w131⟩⟩
          · refine g_iload_n (by decide +kernel : decode prog_10_method_27_code 134 = .ok (.iload_n 2, 1)) rfl ?_
            refine g_iconst (v := nI 2) (by decide +kernel : decode prog_10_method_27_code 135 = .ok (.iconst 2, 1)) (by decide) ?_
            refine g_iaddN (by decide +kernel : decode prog_10_method_27_code 136 = .ok (.iadd, 1)) ?_
            refine g_bipush (v := nI 9) (by decide +kernel : decode prog_10_method_27_code 137 = .ok (.bipush 9, 2)) (by decide) ?_
            obtain ⟨b139, d139, l139⟩ : ∃ z, nx (Bt σ) t a95 = z ∧ z ≤ t := ⟨_, rfl, (nx_b (by omega)).2.1⟩
            have v139 := vl_b (B := Bt σ) (t := t) (q := b139)
            refine g_callVV [.int (nI 1), .int (nI (19 + 6 * (nn f) + 2)), .int (nI 9)] (by decide +kernel : decode prog_10_method_27_code 139 = .ok (.invokevirtual 123, 3)) lk_Md_123 (m_per1 σ (upd (upd (upd (upd f (19 + 6 * (nn f)) (nI k)) (19 + 6 * (nn f) + 4) (nI 1)) 0 (nI (nn f + 1))) (19 + 6 * (nn f) + 3) (nI (vl (Bt σ) t a42))) b hT (19 + 6 * (nn f) + 2) 9 (by omega) (by omega) (by omega) d139) rfl rfl rfl rfl (Nat.le_of_ble_eq_true rfl) (Nat.le_of_ble_eq_true rfl) (fun s139 h139 => ?_)
            rcases h139 with ⟨i139, rfl⟩ | ⟨i139, rfl⟩
            · obtain ⟨a139, e139, m139⟩ : ∃ z, nx (Bt σ) t b139 = z ∧ z ≤ t := ⟨_, rfl, (nx_b (by omega)).2.1⟩
              rw [e139]
              have j139 := en_b (B := Bt σ) m139
              have y139 := vl_b (B := Bt σ) (t := t) (q := a139)
              have k139 := kd_le (Bt σ) t a139
              refine g_aload_n (by decide +kernel : decode prog_10_method_27_code 142 = .ok (.aload_n 0, 1)) rfl ?_
              refine g_getI (by decide +kernel : decode prog_10_method_27_code 143 = .ok (.getfield 90, 3)) fl_Md_90.get rfl rfl ?_
              refine g_top (w := nI 0) (rfl) ?_
              refine g_if_neN (tgt := 179) (by decide +kernel : decode prog_10_method_27_code 146 = .ok (.ifCond .ne 33, 3)) (by decide) (by decide) (fun h => False.elim (by revert h; decide)) (fun _ => ?_)
              refine g_aload_n (by decide +kernel : decode prog_10_method_27_code 149 = .ok (.aload_n 0, 1)) rfl ?_
              refine g_bipush (v := nI 115) (by decide +kernel : decode prog_10_method_27_code 150 = .ok (.bipush 115, 2)) (by decide) ?_
              refine g_bipush (v := nI 101) (by decide +kernel : decode prog_10_method_27_code 152 = .ok (.bipush 101, 2)) (by decide) ?_
              refine g_bipush (v := nI 101) (by decide +kernel : decode prog_10_method_27_code 154 = .ok (.bipush 101, 2)) (by decide) ?_
              refine g_bipush (v := nI 107) (by decide +kernel : decode prog_10_method_27_code 156 = .ok (.bipush 107, 2)) (by decide) ?_
              refine g_bipush (v := nI 115) (by decide +kernel : decode prog_10_method_27_code 158 = .ok (.bipush 115, 2)) (by decide) ?_
              refine g_callVI [.int (nI 115), .int (nI 101), .int (nI 101), .int (nI 107), .int (nI 115)] (by decide +kernel : decode prog_10_method_27_code 160 = .ok (.invokevirtual 101, 3)) lk_Md_101 (PB.of (m_isFive σ (upd (upd (upd (upd (upd f (19 + 6 * (nn f)) (nI k)) (19 + 6 * (nn f) + 4) (nI 1)) 0 (nI (nn f + 1))) (19 + 6 * (nn f) + 3) (nI (vl (Bt σ) t a42))) (19 + 6 * (nn f) + 2) (nI (vl (Bt σ) t b139))) b hT (nI 0) (by omega) 115 101 101 107 115 (by decide) (by decide) (by decide) (by decide) (by decide) ) nm_seeks.symm) rfl rfl rfl rfl (Nat.le_of_ble_eq_true rfl) (Nat.le_of_ble_eq_true rfl) (fun r160 s160 h160 => ?_)
              rcases h160 with ⟨rfl, ⟨rfl, w160⟩ | ⟨rfl, w160⟩⟩
              · refine g_if_eqN (tgt := 179) (by decide +kernel : decode prog_10_method_27_code 163 = .ok (.ifCond .eq 16, 3)) (by decide) (by decide) (fun h => False.elim (by revert h; decide)) (fun _ => ?_)
                refine g_aload_n (by decide +kernel : decode prog_10_method_27_code 166 = .ok (.aload_n 0, 1)) rfl ?_
                refine g_getR (by decide +kernel : decode prog_10_method_27_code 167 = .ok (.getfield 7, 3)) fl_Md_7 rfl rfl ?_
                refine g_iload_n (by decide +kernel : decode prog_10_method_27_code 170 = .ok (.iload_n 2, 1)) rfl ?_
                refine g_iconst (v := nI 4) (by decide +kernel : decode prog_10_method_27_code 171 = .ok (.iconst 4, 1)) (by decide) ?_
                refine g_iaddN (by decide +kernel : decode prog_10_method_27_code 172 = .ok (.iadd, 1)) ?_
                refine g_iconst (v := nI 0) (by decide +kernel : decode prog_10_method_27_code 173 = .ok (.iconst 0, 1)) (by decide) ?_
                refine g_iastore (a := 19 + 6 * (nn f) + 4) (by decide +kernel : decode prog_10_method_27_code 174 = .ok (.iastore, 1)) rfl rfl (by omega) (by decide) ?_
                refine g_sto (mS_u1 _ _ _ _ _) ?_
                refine g_aload_n (by decide +kernel : decode prog_10_method_27_code 175 = .ok (.aload_n 0, 1)) rfl ?_
                obtain ⟨a176, e176, l176⟩ : ∃ z, nx (Bt σ) t a139 = z ∧ z ≤ t := ⟨_, rfl, (nx_b (by omega)).2.1⟩
                have j176 := en_b (B := Bt σ) l176
                have y176 := vl_b (B := Bt σ) (t := t) (q := a176)
                have k176 := kd_le (Bt σ) t a176
                refine g_callVV [] (by decide +kernel : decode prog_10_method_27_code 176 = .ok (.invokevirtual 94, 3)) lk_Md_94 (m_nextT σ (upd (upd (upd (upd (upd (upd f (19 + 6 * (nn f)) (nI k)) (19 + 6 * (nn f) + 4) (nI 1)) 0 (nI (nn f + 1))) (19 + 6 * (nn f) + 3) (nI (vl (Bt σ) t a42))) (19 + 6 * (nn f) + 2) (nI (vl (Bt σ) t b139))) (19 + 6 * (nn f) + 4) (nI 0)) b hT (by omega) e176) rfl rfl rfl rfl (Nat.le_of_ble_eq_true rfl) (Nat.le_of_ble_eq_true rfl) (fun s176 h176 => ?_)
                obtain rfl := h176
                refine g_vret hR (by decide +kernel : decode prog_10_method_27_code 179 = .ok (.return_, 1)) rfl ⟨rfl, ?_⟩
                refine PK_ok (f := f) (k := k) (q' := a176) (h := 0) (a := 0) (w := vl (Bt σ) t b139) (p := vl (Bt σ) t a42) (by omega) ?_ ?_
                · simp only [peK, atK, agK, wtK, seK, if_pos (show nn f < 8 by omega), e30, if_pos w39, e42, if_pos i95, e95, if_neg w109, if_pos w131, d139, if_pos i139, e139, if_pos w160, e176]
                · refine adm_x ?_ ?_ ?_ ?_ ?_ ?_ ?_ ?_
                  all_goals first | (intro j j0 j1; simp (disch := omega) only [upd_n]; done) | (simp [upd, z1, z2, z5]; done)
              · refine g_if_eqN (tgt := 179) (by decide +kernel : decode prog_10_method_27_code 163 = .ok (.ifCond .eq 16, 3)) (by decide) (by decide) (fun _ => ?_) (fun h => False.elim (by revert h; decide))
                refine g_vret hR (by decide +kernel : decode prog_10_method_27_code 179 = .ok (.return_, 1)) rfl ⟨rfl, ?_⟩
                refine PK_ok (f := f) (k := k) (q' := a139) (h := 1) (a := 0) (w := vl (Bt σ) t b139) (p := vl (Bt σ) t a42) (by omega) ?_ ?_
                · simp only [peK, atK, agK, wtK, seK, if_pos (show nn f < 8 by omega), e30, if_pos w39, e42, if_pos i95, e95, if_neg w109, if_pos w131, d139, if_pos i139, e139, if_neg w160]
                · refine adm_x ?_ ?_ ?_ ?_ ?_ ?_ ?_ ?_
                  all_goals first | (intro j j0 j1; simp (disch := omega) only [upd_n]; done) | (simp [upd, z1, z2, z5]; done)
            · refine g_aload_n (by decide +kernel : decode prog_10_method_27_code 142 = .ok (.aload_n 0, 1)) rfl ?_
              refine g_getI (by decide +kernel : decode prog_10_method_27_code 143 = .ok (.getfield 90, 3)) fl_Md_90.get rfl rfl ?_
              refine g_top (w := nI 1) (rfl) ?_
              refine g_if_neN (tgt := 179) (by decide +kernel : decode prog_10_method_27_code 146 = .ok (.ifCond .ne 33, 3)) (by decide) (by decide) (fun _ => ?_) (fun h => False.elim (by revert h; decide))
              refine g_vret hR (by decide +kernel : decode prog_10_method_27_code 179 = .ok (.return_, 1)) rfl ⟨rfl, ?_⟩
              have e9 : peK (Bt σ) t f k q = .inl b139 := by simp only [peK, atK, agK, wtK, seK, if_pos (show nn f < 8 by omega), e30, if_pos w39, e42, if_pos i95, e95, if_neg w109, if_pos w131, d139, if_neg i139]
              rw [e9]
              exact ⟨by omega, _, rfl⟩
          · refine g_iload_n (by decide +kernel : decode prog_10_method_27_code 134 = .ok (.iload_n 2, 1)) rfl ?_
            refine g_iconst (v := nI 2) (by decide +kernel : decode prog_10_method_27_code 135 = .ok (.iconst 2, 1)) (by decide) ?_
            refine g_iaddN (by decide +kernel : decode prog_10_method_27_code 136 = .ok (.iadd, 1)) ?_
            refine g_bipush (v := nI 9) (by decide +kernel : decode prog_10_method_27_code 137 = .ok (.bipush 9, 2)) (by decide) ?_
            refine g_callVV [.int (nI 0), .int (nI (19 + 6 * (nn f) + 2)), .int (nI 9)] (by decide +kernel : decode prog_10_method_27_code 139 = .ok (.invokevirtual 123, 3)) lk_Md_123 (m_per0 σ (upd (upd (upd (upd f (19 + 6 * (nn f)) (nI k)) (19 + 6 * (nn f) + 4) (nI 1)) 0 (nI (nn f + 1))) (19 + 6 * (nn f) + 3) (nI (vl (Bt σ) t a42))) b hT (nI (19 + 6 * (nn f) + 2)) 9 a95) rfl rfl rfl rfl (Nat.le_of_ble_eq_true rfl) (Nat.le_of_ble_eq_true rfl) (fun s139 h139 => ?_)
            obtain rfl := h139
            refine g_aload_n (by decide +kernel : decode prog_10_method_27_code 142 = .ok (.aload_n 0, 1)) rfl ?_
            refine g_getI (by decide +kernel : decode prog_10_method_27_code 143 = .ok (.getfield 90, 3)) fl_Md_90.get rfl rfl ?_
            refine g_top (w := nI 0) (rfl) ?_
            refine g_if_neN (tgt := 179) (by decide +kernel : decode prog_10_method_27_code 146 = .ok (.ifCond .ne 33, 3)) (by decide) (by decide) (fun h => False.elim (by revert h; decide)) (fun _ => ?_)
            refine g_aload_n (by decide +kernel : decode prog_10_method_27_code 149 = .ok (.aload_n 0, 1)) rfl ?_
            refine g_bipush (v := nI 115) (by decide +kernel : decode prog_10_method_27_code 150 = .ok (.bipush 115, 2)) (by decide) ?_
            refine g_bipush (v := nI 101) (by decide +kernel : decode prog_10_method_27_code 152 = .ok (.bipush 101, 2)) (by decide) ?_
            refine g_bipush (v := nI 101) (by decide +kernel : decode prog_10_method_27_code 154 = .ok (.bipush 101, 2)) (by decide) ?_
            refine g_bipush (v := nI 107) (by decide +kernel : decode prog_10_method_27_code 156 = .ok (.bipush 107, 2)) (by decide) ?_
            refine g_bipush (v := nI 115) (by decide +kernel : decode prog_10_method_27_code 158 = .ok (.bipush 115, 2)) (by decide) ?_
            refine g_callVI [.int (nI 115), .int (nI 101), .int (nI 101), .int (nI 107), .int (nI 115)] (by decide +kernel : decode prog_10_method_27_code 160 = .ok (.invokevirtual 101, 3)) lk_Md_101 (PB.of (m_isFive σ (upd (upd (upd (upd f (19 + 6 * (nn f)) (nI k)) (19 + 6 * (nn f) + 4) (nI 1)) 0 (nI (nn f + 1))) (19 + 6 * (nn f) + 3) (nI (vl (Bt σ) t a42))) b hT (nI 0) (by omega) 115 101 101 107 115 (by decide) (by decide) (by decide) (by decide) (by decide) ) nm_seeks.symm) rfl rfl rfl rfl (Nat.le_of_ble_eq_true rfl) (Nat.le_of_ble_eq_true rfl) (fun r160 s160 h160 => ?_)
            rcases h160 with ⟨rfl, ⟨rfl, w160⟩ | ⟨rfl, w160⟩⟩
            · refine g_if_eqN (tgt := 179) (by decide +kernel : decode prog_10_method_27_code 163 = .ok (.ifCond .eq 16, 3)) (by decide) (by decide) (fun h => False.elim (by revert h; decide)) (fun _ => ?_)
              refine g_aload_n (by decide +kernel : decode prog_10_method_27_code 166 = .ok (.aload_n 0, 1)) rfl ?_
              refine g_getR (by decide +kernel : decode prog_10_method_27_code 167 = .ok (.getfield 7, 3)) fl_Md_7 rfl rfl ?_
              refine g_iload_n (by decide +kernel : decode prog_10_method_27_code 170 = .ok (.iload_n 2, 1)) rfl ?_
              refine g_iconst (v := nI 4) (by decide +kernel : decode prog_10_method_27_code 171 = .ok (.iconst 4, 1)) (by decide) ?_
              refine g_iaddN (by decide +kernel : decode prog_10_method_27_code 172 = .ok (.iadd, 1)) ?_
              refine g_iconst (v := nI 0) (by decide +kernel : decode prog_10_method_27_code 173 = .ok (.iconst 0, 1)) (by decide) ?_
              refine g_iastore (a := 19 + 6 * (nn f) + 4) (by decide +kernel : decode prog_10_method_27_code 174 = .ok (.iastore, 1)) rfl rfl (by omega) (by decide) ?_
              refine g_sto (mS_u1 _ _ _ _ _) ?_
              refine g_aload_n (by decide +kernel : decode prog_10_method_27_code 175 = .ok (.aload_n 0, 1)) rfl ?_
              obtain ⟨a176, e176, l176⟩ : ∃ z, nx (Bt σ) t a95 = z ∧ z ≤ t := ⟨_, rfl, (nx_b (by omega)).2.1⟩
              have j176 := en_b (B := Bt σ) l176
              have y176 := vl_b (B := Bt σ) (t := t) (q := a176)
              have k176 := kd_le (Bt σ) t a176
              refine g_callVV [] (by decide +kernel : decode prog_10_method_27_code 176 = .ok (.invokevirtual 94, 3)) lk_Md_94 (m_nextT σ (upd (upd (upd (upd (upd f (19 + 6 * (nn f)) (nI k)) (19 + 6 * (nn f) + 4) (nI 1)) 0 (nI (nn f + 1))) (19 + 6 * (nn f) + 3) (nI (vl (Bt σ) t a42))) (19 + 6 * (nn f) + 4) (nI 0)) b hT (by omega) e176) rfl rfl rfl rfl (Nat.le_of_ble_eq_true rfl) (Nat.le_of_ble_eq_true rfl) (fun s176 h176 => ?_)
              obtain rfl := h176
              refine g_vret hR (by decide +kernel : decode prog_10_method_27_code 179 = .ok (.return_, 1)) rfl ⟨rfl, ?_⟩
              refine PK_ok (f := f) (k := k) (q' := a176) (h := 0) (a := 0) (w := 0) (p := vl (Bt σ) t a42) (by omega) ?_ ?_
              · simp only [peK, atK, agK, wtK, seK, if_pos (show nn f < 8 by omega), e30, if_pos w39, e42, if_pos i95, e95, if_neg w109, if_neg w131, if_pos w160, e176]
              · refine adm_x ?_ ?_ ?_ ?_ ?_ ?_ ?_ ?_
                all_goals first | (intro j j0 j1; simp (disch := omega) only [upd_n]; done) | (simp [upd, z1, z2, z5]; done)
            · refine g_if_eqN (tgt := 179) (by decide +kernel : decode prog_10_method_27_code 163 = .ok (.ifCond .eq 16, 3)) (by decide) (by decide) (fun _ => ?_) (fun h => False.elim (by revert h; decide))
              refine g_vret hR (by decide +kernel : decode prog_10_method_27_code 179 = .ok (.return_, 1)) rfl ⟨rfl, ?_⟩
              refine PK_ok (f := f) (k := k) (q' := a95) (h := 1) (a := 0) (w := 0) (p := vl (Bt σ) t a42) (by omega) ?_ ?_
              · simp only [peK, atK, agK, wtK, seK, if_pos (show nn f < 8 by omega), e30, if_pos w39, e42, if_pos i95, e95, if_neg w109, if_neg w131, if_neg w160]
              · refine adm_x ?_ ?_ ?_ ?_ ?_ ?_ ?_ ?_
                all_goals first | (intro j j0 j1; simp (disch := omega) only [upd_n]; done) | (simp [upd, z1, z2, z5]; done)
      · refine g_aload_n (by decide +kernel : decode prog_10_method_27_code 98 = .ok (.aload_n 0, 1)) rfl ?_
        refine g_aload_n (by decide +kernel : decode prog_10_method_27_code 99 = .ok (.aload_n 0, 1)) rfl ?_
        refine g_iconst (v := nI 3) (by decide +kernel : decode prog_10_method_27_code 100 = .ok (.iconst 3, 1)) (by decide) ?_
        refine g_bipush (v := nI 97) (by decide +kernel : decode prog_10_method_27_code 101 = .ok (.bipush 97, 2)) (by decide) ?_
        refine g_bipush (v := nI 103) (by decide +kernel : decode prog_10_method_27_code 103 = .ok (.bipush 103, 2)) (by decide) ?_
        refine g_bipush (v := nI 101) (by decide +kernel : decode prog_10_method_27_code 105 = .ok (.bipush 101, 2)) (by decide) ?_
        refine g_bipush (v := nI 101) (by decide +kernel : decode prog_10_method_27_code 107 = .ok (.bipush 101, 2)) (by decide) ?_
        refine g_callVI [.int (nI 3), .int (nI 97), .int (nI 103), .int (nI 101), .int (nI 101)] (by decide +kernel : decode prog_10_method_27_code 109 = .ok (.invokevirtual 97, 3)) lk_Md_97 (m_isName σ (upd (upd (upd f (19 + 6 * (nn f)) (nI k)) (19 + 6 * (nn f) + 4) (nI 1)) 0 (nI (nn f + 1))) b hT (nI 1) (by omega) 3 2 97 103 101 101 rfl (by decide) (by decide) (by decide) (by decide) (by decide) (by decide) ) rfl rfl rfl rfl (Nat.le_of_ble_eq_true rfl) (Nat.le_of_ble_eq_true rfl) (fun r109 s109 h109 => ?_)
        obtain ⟨rfl, _⟩ := h109
        refine g_iload_n (by decide +kernel : decode prog_10_method_27_code 112 = .ok (.iload_n 2, 1)) rfl ?_
        refine g_iconst (v := nI 1) (by decide +kernel : decode prog_10_method_27_code 113 = .ok (.iconst 1, 1)) (by decide) ?_
        refine g_iaddN (by decide +kernel : decode prog_10_method_27_code 114 = .ok (.iadd, 1)) ?_
        refine g_bipush (v := nI 99) (by decide +kernel : decode prog_10_method_27_code 115 = .ok (.bipush 99, 2)) (by decide) ?_
        refine g_callVV [.int r109, .int (nI (19 + 6 * (nn f) + 1)), .int (nI 99)] (by decide +kernel : decode prog_10_method_27_code 117 = .ok (.invokevirtual 123, 3)) lk_Md_123 (m_perW σ (upd (upd (upd f (19 + 6 * (nn f)) (nI k)) (19 + 6 * (nn f) + 4) (nI 1)) 0 (nI (nn f + 1))) b hT r109 (nI (19 + 6 * (nn f) + 1)) 99 a42) rfl rfl rfl rfl (Nat.le_of_ble_eq_true rfl) (Nat.le_of_ble_eq_true rfl) (fun s117 h117 => ?_)
        obtain rfl := h117
        refine g_aload_n (by decide +kernel : decode prog_10_method_27_code 120 = .ok (.aload_n 0, 1)) rfl ?_
        refine g_aload_n (by decide +kernel : decode prog_10_method_27_code 121 = .ok (.aload_n 0, 1)) rfl ?_
        refine g_iconst (v := nI 3) (by decide +kernel : decode prog_10_method_27_code 122 = .ok (.iconst 3, 1)) (by decide) ?_
        refine g_bipush (v := nI 119) (by decide +kernel : decode prog_10_method_27_code 123 = .ok (.bipush 119, 2)) (by decide) ?_
        refine g_bipush (v := nI 105) (by decide +kernel : decode prog_10_method_27_code 125 = .ok (.bipush 105, 2)) (by decide) ?_
        refine g_bipush (v := nI 116) (by decide +kernel : decode prog_10_method_27_code 127 = .ok (.bipush 116, 2)) (by decide) ?_
        refine g_bipush (v := nI 116) (by decide +kernel : decode prog_10_method_27_code 129 = .ok (.bipush 116, 2)) (by decide) ?_
        refine g_callVI [.int (nI 3), .int (nI 119), .int (nI 105), .int (nI 116), .int (nI 116)] (by decide +kernel : decode prog_10_method_27_code 131 = .ok (.invokevirtual 97, 3)) lk_Md_97 (m_isName σ (upd (upd (upd f (19 + 6 * (nn f)) (nI k)) (19 + 6 * (nn f) + 4) (nI 1)) 0 (nI (nn f + 1))) b hT (nI 1) (by omega) 3 2 119 105 116 116 rfl (by decide) (by decide) (by decide) (by decide) (by decide) (by decide) ) rfl rfl rfl rfl (Nat.le_of_ble_eq_true rfl) (Nat.le_of_ble_eq_true rfl) (fun r131 s131 h131 => ?_)
        obtain ⟨rfl, _⟩ := h131
        refine g_iload_n (by decide +kernel : decode prog_10_method_27_code 134 = .ok (.iload_n 2, 1)) rfl ?_
        refine g_iconst (v := nI 2) (by decide +kernel : decode prog_10_method_27_code 135 = .ok (.iconst 2, 1)) (by decide) ?_
        refine g_iaddN (by decide +kernel : decode prog_10_method_27_code 136 = .ok (.iadd, 1)) ?_
        refine g_bipush (v := nI 9) (by decide +kernel : decode prog_10_method_27_code 137 = .ok (.bipush 9, 2)) (by decide) ?_
        refine g_callVV [.int r131, .int (nI (19 + 6 * (nn f) + 2)), .int (nI 9)] (by decide +kernel : decode prog_10_method_27_code 139 = .ok (.invokevirtual 123, 3)) lk_Md_123 (m_perW σ (upd (upd (upd f (19 + 6 * (nn f)) (nI k)) (19 + 6 * (nn f) + 4) (nI 1)) 0 (nI (nn f + 1))) b hT r131 (nI (19 + 6 * (nn f) + 2)) 9 a42) rfl rfl rfl rfl (Nat.le_of_ble_eq_true rfl) (Nat.le_of_ble_eq_true rfl) (fun s139 h139 => ?_)
        obtain rfl := h139
        refine g_aload_n (by decide +kernel : decode prog_10_method_27_code 142 = .ok (.aload_n 0, 1)) rfl ?_
        refine g_getI (by decide +kernel : decode prog_10_method_27_code 143 = .ok (.getfield 90, 3)) fl_Md_90.get rfl rfl ?_
        refine g_top (w := nI 1) (rfl) ?_
        refine g_if_neN (tgt := 179) (by decide +kernel : decode prog_10_method_27_code 146 = .ok (.ifCond .ne 33, 3)) (by decide) (by decide) (fun _ => ?_) (fun h => False.elim (by revert h; decide))
        refine g_vret hR (by decide +kernel : decode prog_10_method_27_code 179 = .ok (.return_, 1)) rfl ⟨rfl, ?_⟩
        have e9 : peK (Bt σ) t f k q = .inl a42 := by simp only [peK, atK, agK, wtK, seK, if_pos (show nn f < 8 by omega), e30, if_pos w39, e42, if_neg i95]
        rw [e9]
        exact ⟨by omega, _, rfl⟩
    · refine g_callVV [.int (nI 0)] (by decide +kernel : decode prog_10_method_27_code 42 = .ok (.invokevirtual 111, 3)) lk_Md_111 (m_needs0 σ f b hT a30) rfl rfl rfl rfl (Nat.le_of_ble_eq_true rfl) (Nat.le_of_ble_eq_true rfl) (fun s42 h42 => ?_)
      obtain rfl := h42
      refine g_aload_n (by decide +kernel : decode prog_10_method_27_code 45 = .ok (.aload_n 0, 1)) rfl ?_
      refine g_getI (by decide +kernel : decode prog_10_method_27_code 46 = .ok (.getfield 90, 3)) fl_Md_90.get rfl rfl ?_
      refine g_top (w := nI 1) (rfl) ?_
      refine g_if_neN (tgt := 78) (by decide +kernel : decode prog_10_method_27_code 49 = .ok (.ifCond .ne 29, 3)) (by decide) (by decide) (fun _ => ?_) (fun h => False.elim (by revert h; decide))
      refine g_aload_n (by decide +kernel : decode prog_10_method_27_code 78 = .ok (.aload_n 0, 1)) rfl ?_
      refine g_aload_n (by decide +kernel : decode prog_10_method_27_code 79 = .ok (.aload_n 0, 1)) rfl ?_
      refine g_getI (by decide +kernel : decode prog_10_method_27_code 80 = .ok (.getfield 90, 3)) fl_Md_90.get rfl rfl ?_
      refine g_top (w := nI 1) (rfl) ?_
      refine g_if_eqN (tgt := 90) (by decide +kernel : decode prog_10_method_27_code 83 = .ok (.ifCond .eq 7, 3)) (by decide) (by decide) (fun h => False.elim (by revert h; decide)) (fun _ => ?_)
      refine g_iconst (v := nI 0) (by decide +kernel : decode prog_10_method_27_code 86 = .ok (.iconst 0, 1)) (by decide) ?_
      refine g_goto (tgt := 93) (by decide +kernel : decode prog_10_method_27_code 87 = .ok (.goto 6, 3)) (by decide) ?_
      refine g_bipush (v := nI 11) (by decide +kernel : decode prog_10_method_27_code 93 = .ok (.bipush 11, 2)) (by decide) ?_
      refine g_callVV [.int (nI 0), .int (nI 11)] (by decide +kernel : decode prog_10_method_27_code 95 = .ok (.invokevirtual 115, 3)) lk_Md_115 (m_numW σ f b hT (nI 0) 11 (by decide) (by omega)) rfl rfl rfl rfl (Nat.le_of_ble_eq_true rfl) (Nat.le_of_ble_eq_true rfl) (fun s95 h95 => ?_)
      obtain rfl := h95
      refine g_aload_n (by decide +kernel : decode prog_10_method_27_code 98 = .ok (.aload_n 0, 1)) rfl ?_
      refine g_aload_n (by decide +kernel : decode prog_10_method_27_code 99 = .ok (.aload_n 0, 1)) rfl ?_
      refine g_iconst (v := nI 3) (by decide +kernel : decode prog_10_method_27_code 100 = .ok (.iconst 3, 1)) (by decide) ?_
      refine g_bipush (v := nI 97) (by decide +kernel : decode prog_10_method_27_code 101 = .ok (.bipush 97, 2)) (by decide) ?_
      refine g_bipush (v := nI 103) (by decide +kernel : decode prog_10_method_27_code 103 = .ok (.bipush 103, 2)) (by decide) ?_
      refine g_bipush (v := nI 101) (by decide +kernel : decode prog_10_method_27_code 105 = .ok (.bipush 101, 2)) (by decide) ?_
      refine g_bipush (v := nI 101) (by decide +kernel : decode prog_10_method_27_code 107 = .ok (.bipush 101, 2)) (by decide) ?_
      refine g_callVI [.int (nI 3), .int (nI 97), .int (nI 103), .int (nI 101), .int (nI 101)] (by decide +kernel : decode prog_10_method_27_code 109 = .ok (.invokevirtual 97, 3)) lk_Md_97 (m_isName σ f b hT (nI 1) (by omega) 3 2 97 103 101 101 rfl (by decide) (by decide) (by decide) (by decide) (by decide) (by decide) ) rfl rfl rfl rfl (Nat.le_of_ble_eq_true rfl) (Nat.le_of_ble_eq_true rfl) (fun r109 s109 h109 => ?_)
      obtain ⟨rfl, _⟩ := h109
      refine g_iload_n (by decide +kernel : decode prog_10_method_27_code 112 = .ok (.iload_n 2, 1)) rfl ?_
      refine g_iconst (v := nI 1) (by decide +kernel : decode prog_10_method_27_code 113 = .ok (.iconst 1, 1)) (by decide) ?_
      refine g_iaddN (by decide +kernel : decode prog_10_method_27_code 114 = .ok (.iadd, 1)) ?_
      refine g_bipush (v := nI 99) (by decide +kernel : decode prog_10_method_27_code 115 = .ok (.bipush 99, 2)) (by decide) ?_
      refine g_callVV [.int r109, .int (nI (19 + 6 * (nn f) + 1)), .int (nI 99)] (by decide +kernel : decode prog_10_method_27_code 117 = .ok (.invokevirtual 123, 3)) lk_Md_123 (m_perW σ f b hT r109 (nI (19 + 6 * (nn f) + 1)) 99 a30) rfl rfl rfl rfl (Nat.le_of_ble_eq_true rfl) (Nat.le_of_ble_eq_true rfl) (fun s117 h117 => ?_)
      obtain rfl := h117
      refine g_aload_n (by decide +kernel : decode prog_10_method_27_code 120 = .ok (.aload_n 0, 1)) rfl ?_
      refine g_aload_n (by decide +kernel : decode prog_10_method_27_code 121 = .ok (.aload_n 0, 1)) rfl ?_
      refine g_iconst (v := nI 3) (by decide +kernel : decode prog_10_method_27_code 122 = .ok (.iconst 3, 1)) (by decide) ?_
      refine g_bipush (v := nI 119) (by decide +kernel : decode prog_10_method_27_code 123 = .ok (.bipush 119, 2)) (by decide) ?_
      refine g_bipush (v := nI 105) (by decide +kernel : decode prog_10_method_27_code 125 = .ok (.bipush 105, 2)) (by decide) ?_
      refine g_bipush (v := nI 116) (by decide +kernel : decode prog_10_method_27_code 127 = .ok (.bipush 116, 2)) (by decide) ?_
      refine g_bipush (v := nI 116) (by decide +kernel : decode prog_10_method_27_code 129 = .ok (.bipush 116, 2)) (by decide) ?_
      refine g_callVI [.int (nI 3), .int (nI 119), .int (nI 105), .int (nI 116), .int (nI 116)] (by decide +kernel : decode prog_10_method_27_code 131 = .ok (.invokevirtual 97, 3)) lk_Md_97 (m_isName σ f b hT (nI 1) (by omega) 3 2 119 105 116 116 rfl (by decide) (by decide) (by decide) (by decide) (by decide) (by decide) ) rfl rfl rfl rfl (Nat.le_of_ble_eq_true rfl) (Nat.le_of_ble_eq_true rfl) (fun r131 s131 h131 => ?_)
      obtain ⟨rfl, _⟩ := h131
      refine g_iload_n (by decide +kernel : decode prog_10_method_27_code 134 = .ok (.iload_n 2, 1)) rfl ?_
      refine g_iconst (v := nI 2) (by decide +kernel : decode prog_10_method_27_code 135 = .ok (.iconst 2, 1)) (by decide) ?_
      refine g_iaddN (by decide +kernel : decode prog_10_method_27_code 136 = .ok (.iadd, 1)) ?_
      refine g_bipush (v := nI 9) (by decide +kernel : decode prog_10_method_27_code 137 = .ok (.bipush 9, 2)) (by decide) ?_
      refine g_callVV [.int r131, .int (nI (19 + 6 * (nn f) + 2)), .int (nI 9)] (by decide +kernel : decode prog_10_method_27_code 139 = .ok (.invokevirtual 123, 3)) lk_Md_123 (m_perW σ f b hT r131 (nI (19 + 6 * (nn f) + 2)) 9 a30) rfl rfl rfl rfl (Nat.le_of_ble_eq_true rfl) (Nat.le_of_ble_eq_true rfl) (fun s139 h139 => ?_)
      obtain rfl := h139
      refine g_aload_n (by decide +kernel : decode prog_10_method_27_code 142 = .ok (.aload_n 0, 1)) rfl ?_
      refine g_getI (by decide +kernel : decode prog_10_method_27_code 143 = .ok (.getfield 90, 3)) fl_Md_90.get rfl rfl ?_
      refine g_top (w := nI 1) (rfl) ?_
      refine g_if_neN (tgt := 179) (by decide +kernel : decode prog_10_method_27_code 146 = .ok (.ifCond .ne 33, 3)) (by decide) (by decide) (fun _ => ?_) (fun h => False.elim (by revert h; decide))
      refine g_vret hR (by decide +kernel : decode prog_10_method_27_code 179 = .ok (.return_, 1)) rfl ⟨rfl, ?_⟩
      have e9 : peK (Bt σ) t f k q = .inl a30 := by simp only [peK, atK, agK, wtK, seK, if_pos (show nn f < 8 by omega), e30, if_neg w39]
      rw [e9]
      exact ⟨by omega, _, rfl⟩
