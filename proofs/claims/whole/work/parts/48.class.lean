/-! THE PROGRAM: a park told in a text -/
def P0 (B : Nat → Nat) (t : Nat) (σ0 σ : Store) (F : Int32) (g : Row) : Prop := Tb B t (sub ixP σ) F ∧ (∃ z, RP (tV σ) (upd g 2 z)) ∧ Fr σ0 σ
theorem p_adv0 {B : Nat → Nat} {t : Nat} {σ0 σ : Store} {F : Int32} {g : Row} (h : P0 B t σ0 σ F g) (h4 : σ 29 4 = nI 0) : Ct ΛC mt_Tp_advance 1 [.ref 29] σ (PV (fun σ' => PS B t σ0 σ' (sk B t 0) F g)) := by
  refine (Ct.embV ixP (s_adv0 h.1 (p := 0) h4 (Nat.zero_le _)) (by decide +kernel) rfl).post ?_
  rintro v σ' ⟨e, ρ, h1, rfl⟩
  refine ⟨e, h1, h.2.1, fun c hc c1 c2 => ?_⟩
  rw [← h.2.2 c hc c1 c2]
  simp [over, pos, Ne.symm c1, Ne.symm c2]
theorem P0.f {B : Nat → Nat} {t : Nat} {σ0 σ : Store} {F : Int32} {g : Row} (h : P0 B t σ0 σ F g) (v w : Int32) : P0 B t σ0 (s_up (s_up σ 29 5 v) 29 4 w) v g := by
  refine ⟨⟨h.1.1, rfl, h.1.2.2⟩, h.2.1, fun c hc c1 c2 => ?_⟩
  rw [s_up_n _ _ _ c1, s_up_n _ _ _ c1]; exact h.2.2 c hc c1 c2
set_option maxRecDepth 20000 in
theorem c_readInto {B : Nat → Nat} {t : Nat} {σ0 σ : Store} {F : Int32} {g : Row} (h : P0 B t σ0 σ F g) (hI : Inv g) (hZ : Zf g) : Ct ΛC mt_Tp_readInto 9 [.ref 29, .ref 10] σ (PI (RQ B t σ0 (prK B t (t + 1) (sk B t 0) g))) := by
  refine Ct.of (by decide) (Nat.le_of_ble_eq_true rfl) (fun X hR => ?_)
  show G (ΛC, mt_Tp_readInto, 9) X σ [some (.ref 29), some (.ref 10), none] [] 0
  refine g_aload_n (by decide +kernel : decode prog_7_method_3_code 0 = .ok (.aload_n 0, 1)) rfl ?_
  refine g_iconst (v := (-1)) (by decide +kernel : decode prog_7_method_3_code 1 = .ok (.iconst (-1), 1)) (by decide) ?_
  refine g_putI (by decide +kernel : decode prog_7_method_3_code 2 = .ok (.putfield 19, 3)) fl_Tp_19 rfl rfl ?_
  refine g_aload_n (by decide +kernel : decode prog_7_method_3_code 5 = .ok (.aload_n 0, 1)) rfl ?_
  refine g_iconst (v := nI 0) (by decide +kernel : decode prog_7_method_3_code 6 = .ok (.iconst 0, 1)) (by decide) ?_
  refine g_putI (by decide +kernel : decode prog_7_method_3_code 7 = .ok (.putfield 22, 3)) fl_Tp_22 rfl rfl ?_
  refine g_aload_n (by decide +kernel : decode prog_7_method_3_code 10 = .ok (.aload_n 0, 1)) rfl ?_
  refine g_callVV [] (by decide +kernel : decode prog_7_method_3_code 11 = .ok (.invokevirtual 25, 3)) lk_Tp_25 (p_adv0 (h.f (-1) (nI 0)) rfl) rfl rfl rfl rfl (Nat.le_of_ble_eq_true rfl) (Nat.le_of_ble_eq_true rfl) (fun s11 h11 => ?_)
  have S11 := h11
  refine g_iconst (v := nI 0) (by decide +kernel : decode prog_7_method_3_code 14 = .ok (.iconst 0, 1)) (by decide) ?_
  refine g_istore_n (L' := [some (.ref 29), some (.ref 10), some (.int (nI 0))]) (by decide +kernel : decode prog_7_method_3_code 15 = .ok (.istore_n 2, 1)) (Nat.le_of_ble_eq_true rfl) rfl ?_
  exact i_lp (t + 1) 0 _ g _ S11 S11.le.1 hI hZ (Nat.zero_le _) (by omega) hR
-- z isn't touched
def zK (f : Row) (r : PR) : Prop := ∀ q g, r = .inr (q, g) → g 2 = f 2
theorem zK_l {f : Row} {e : Nat} : zK f (.inl e) := fun q g h => by cases h
theorem zK_r {f g : Row} {q : Nat} (h : g 2 = f 2) : zK f (.inr (q, g)) := fun q' g' e => by
  cases e; exact h
theorem adm_2 {f : Row} {k a w p h : Nat} : adm f k a w p h 2 = f 2 := adm_r (by decide) (by omega)
theorem seK_z {B : Nat → Nat} {t : Nat} {f : Row} {k a w p q : Nat} : zK f (seK B t f k a w p q) := by
  unfold seK
  split
  · exact zK_r adm_2
  · exact zK_r adm_2
theorem wtK_z {B : Nat → Nat} {t : Nat} {f : Row} {k a p q : Nat} : zK f (wtK B t f k a p q) := by
  unfold wtK
  split
  · split
    · exact seK_z
    · exact zK_l
  · exact seK_z
theorem agK_z {B : Nat → Nat} {t : Nat} {f : Row} {k p q : Nat} : zK f (agK B t f k p q) := by
  unfold agK
  split
  · split
    · exact wtK_z
    · exact zK_l
  · exact wtK_z
theorem peK_z {B : Nat → Nat} {t : Nat} {f : Row} {k q : Nat} : zK f (peK B t f k q) := by
  unfold peK atK
  split
  · split
    · split
      · exact agK_z
      · exact zK_l
    · exact zK_l
  · exact zK_l
theorem laK_z {B : Nat → Nat} {t : Nat} {f : Row} {i q : Nat} : zK f (laK B t f i q) := by
  unfold laK
  split
  · exact zK_r (upd_n (by omega))
  · exact zK_l
theorem coK_z {B : Nat → Nat} {t : Nat} {f : Row} {q : Nat} : zK f (coK B t f q) := by
  unfold coK cvK
  split
  · split
    · split
      · exact zK_r (upd_n (by omega))
      · exact zK_l
    · exact zK_l
  · exact zK_l
theorem beK_z {B : Nat → Nat} {t : Nat} {f : Row} {q : Nat} : zK f (beK B t f q) := by
  unfold beK
  split
  · exact peK_z
  · split
    · exact laK_z
    · split
      · exact coK_z
      · exact zK_l
theorem itm_z {B : Nat → Nat} {t : Nat} {f : Row} {q : Nat} : zK f (itm B t f q) := by
  unfold itm
  have h := beK_z (B := B) (t := t) (f := f) (q := q)
  cases hb : beK B t f q with
  | inl e => exact zK_l
  | inr r =>
    obtain ⟨q1, g1⟩ := r
    have h1 := h q1 g1 hb
    show zK f (if isC B t q1 then .inr (nx B t q1, g1) else .inl q1)
    split
    · exact zK_r h1
    · exact zK_l
theorem prK_z {B : Nat → Nat} {t : Nat} : ∀ (k q : Nat) (f g : Row), prK B t k q f = .inr g → g 2 = f 2 := by
  intro k
  induction k with
  | zero => intro q f g h; unfold prK at h; cases h; rfl
  | succ k ih =>
    intro q f g h
    by_cases h0 : kd B t q = 0
    · rw [prK, if_pos h0] at h; cases h; rfl
    · cases hi : itm B t f q with
      | inl e => rw [prK, if_neg h0, hi] at h; cases h
      | inr r =>
        rw [prK, if_neg h0, hi] at h
        obtain ⟨q1, g1⟩ := r
        exact (ih q1 g1 g h).trans (itm_z q1 g1 hi)
theorem RX.fr {σ σ' τ : Store} {f : Row} (h : RX σ τ f) (hF : Fr σ σ') : RX (s_up σ' 29 1 (nI 0)) (s_up τ 0 6 (nI 0)) f := by
  have e : ∀ c, (c < 10 ∨ 18 < c) → c ≠ 29 → c ≠ 30 → σ' c = σ c := hF
  obtain ⟨a1, a2, a3, a4, a5, a6, a7⟩ := h
  refine ⟨a1.cg (k8 (e 1 (by decide) (by decide) (by decide)) (e 2 (by decide) (by decide) (by decide)) (e 3 (by decide) (by decide) (by decide)) (e 4 (by decide) (by decide) (by decide)) (e 5 (by decide) (by decide) (by decide)) (e 6 (by decide) (by decide) (by decide)) (e 7 (by decide) (by decide) (by decide)) (e 8 (by decide) (by decide) (by decide))), ?_, ⟨0, rfl, ⟨rfl, by decide, fun i hi => absurd hi (Nat.not_lt_zero _)⟩, fun i hi => absurd hi (Nat.not_lt_zero _)⟩, ?_, ?_, ?_, ?_⟩
  · show RK (σ' 0) (kV2 σ') (s_up τ 0 6 (nI 0))
    have ek : ∀ k, k < 8 → kV2 σ' k = kV2 σ k := k8 (e 19 (by decide) (by decide) (by decide)) (e 20 (by decide) (by decide) (by decide)) (e 21 (by decide) (by decide) (by decide)) (e 22 (by decide) (by decide) (by decide)) (e 23 (by decide) (by decide) (by decide)) (e 24 (by decide) (by decide) (by decide)) (e 25 (by decide) (by decide) (by decide)) (e 26 (by decide) (by decide) (by decide))
    rw [e 0 (by decide) (by decide) (by decide)]
    rcases a2 with ⟨x1, x2⟩ | ⟨x1, x2, x3⟩
    · exact Or.inl ⟨x1, x2⟩
    · exact Or.inr ⟨x1, x2, x3.cg ek⟩
  · show RR (σ' 31) (σ' 32) (s_up τ 0 6 (nI 0))
    rw [e 31 (by decide) (by decide) (by decide), e 32 (by decide) (by decide) (by decide)]
    exact a4
  · show RS (σ' 34) (σ' 35) (σ' 36) (s_up τ 0 6 (nI 0))
    rw [e 34 (by decide) (by decide) (by decide), e 35 (by decide) (by decide) (by decide), e 36 (by decide) (by decide) (by decide)]
    exact a5
  · show RH (σ' 38) (σ' 39) (σ' 40) (s_up τ 0 6 (nI 0))
    rw [e 38 (by decide) (by decide) (by decide), e 39 (by decide) (by decide) (by decide), e 40 (by decide) (by decide) (by decide)]
    exact a6
  · show RA (σ' 41) (σ' 42) (s_up τ 0 6 (nI 0))
    rw [e 41 (by decide) (by decide) (by decide), e 42 (by decide) (by decide) (by decide)]
    exact a7
def PKC (τ : Store) (f : Row) (r : Nat ⊕ Row) : Int32 → Store → Prop := fun v σ' => match r with
  | .inl e => v = -100 - nI e ∧ RX σ' (s_up τ 0 6 (nI 0)) f
  | .inr g => v = g 0 ∧ RX σ' (s_up (s_up τ 0 6 (nI 0)) 0 14 (nI 0)) g
theorem RX.tb {σ τ : Store} {f : Row} (h : RX σ τ f) {t : Nat} (hT : TP τ t) : Tb (Bt τ) t (sub ixP σ) (σ 29 5) := by
  obtain ⟨t', a, ⟨b1, b2, b3⟩, c⟩ := h.2.2.1
  have h2 := hT.2.1
  have e : t = t' := (nI_eq (by omega) (by omega)).mp (hT.1.symm.trans b1)
  subst e
  refine ⟨a, rfl, b2, fun i hi => ?_⟩
  have hb := Bt_n hT hi
  refine ⟨hb.2, ?_⟩
  show σ 30 i = sb (Bt τ i)
  rw [c i hi, hb.1]
  rfl
theorem beg_2 (f : Row) : beg f 2 = f 2 := (beg_inv f).2.2.2.1
set_option maxRecDepth 20000 in
theorem k_park {σ τ : Store} {f : Row} (h : RX σ τ f) {t : Nat} (hT : TP τ t) : Ct ΛC mt_LS_park 10 [.ref 0] σ (PI (PKC τ f (parkP τ t f))) := by
  refine Ct.of (by decide) (Nat.le_of_ble_eq_true rfl) (fun X hR => ?_)
  show G (ΛC, mt_LS_park, 10) X σ [some (.ref 0), none, none] [] 0
  refine g_aload_n (by decide +kernel : decode prog_1_method_9_code 0 = .ok (.aload_n 0, 1)) rfl ?_
  refine g_getR (by decide +kernel : decode prog_1_method_9_code 1 = .ok (.getfield 12, 3)) fl_LS_12 rfl rfl ?_
  refine g_getR (by decide +kernel : decode prog_1_method_9_code 4 = .ok (.getfield 74, 3)) fl_LS_74 rfl rfl ?_
  refine g_astore_n (L' := [some (.ref 0), some (.ref 10), none]) (by decide +kernel : decode prog_1_method_9_code 7 = .ok (.astore_n 1, 1)) (Nat.le_of_ble_eq_true rfl) rfl ?_
  refine g_aload_n (by decide +kernel : decode prog_1_method_9_code 8 = .ok (.aload_n 1, 1)) rfl ?_
  refine g_callVV [] (by decide +kernel : decode prog_1_method_9_code 9 = .ok (.invokevirtual 77, 3)) lk_LS_77 (emTV (c_begins (tV σ) f) rfl) rfl rfl rfl rfl (Nat.le_of_ble_eq_true rfl) (Nat.le_of_ble_eq_true rfl) (fun s9 h9 => ?_)
  obtain ⟨ρ, ⟨b1, _⟩, e9⟩ := h9
  subst e9
  have hP0 : P0 (Bt τ) t σ (over σ ixT ρ) (σ 29 5) (beg f) := ⟨h.tb hT, ⟨_, tV_T b1⟩, fun c hc _ _ => over_T hc⟩
  refine g_aload_n (by decide +kernel : decode prog_1_method_9_code 12 = .ok (.aload_n 0, 1)) rfl ?_
  refine g_getR (by decide +kernel : decode prog_1_method_9_code 13 = .ok (.getfield 30, 3)) fl_LS_30 rfl rfl ?_
  refine g_aload_n (by decide +kernel : decode prog_1_method_9_code 16 = .ok (.aload_n 1, 1)) rfl ?_
  refine g_callVI [.ref 10] (by decide +kernel : decode prog_1_method_9_code 17 = .ok (.invokevirtual 80, 3)) lk_LS_80 (c_readInto hP0 (beg_inv f).1 (beg_inv f).2.2.1) rfl rfl rfl rfl (Nat.le_of_ble_eq_true rfl) (Nat.le_of_ble_eq_true rfl) (fun r17 s17 h17 => ?_)
  rcases hr : parkP τ t f with e | g
  · rw [show prK (Bt τ) t (t + 1) (sk (Bt τ) t 0) (beg f) = .inl e from hr] at h17
    obtain ⟨rfl, le, q2, g2, S2⟩ := h17
    have h200 := S2.le
    refine g_istore_n (L' := [some (.ref 0), some (.ref 10), some (.int (nI e))]) (by decide +kernel : decode prog_1_method_9_code 20 = .ok (.istore_n 2, 1)) (Nat.le_of_ble_eq_true rfl) rfl ?_
    refine g_aload_n (by decide +kernel : decode prog_1_method_9_code 21 = .ok (.aload_n 0, 1)) rfl ?_
    refine g_getR (by decide +kernel : decode prog_1_method_9_code 22 = .ok (.getfield 30, 3)) fl_LS_30 rfl rfl ?_
    refine g_iconst (v := nI 0) (by decide +kernel : decode prog_1_method_9_code 25 = .ok (.iconst 0, 1)) (by decide) ?_
    refine g_putI (by decide +kernel : decode prog_1_method_9_code 26 = .ok (.putfield 66, 3)) fl_LS_66 rfl rfl ?_
    have X26 := h.fr S2.2.2
    refine g_iload_n (by decide +kernel : decode prog_1_method_9_code 29 = .ok (.iload_n 2, 1)) rfl ?_
    refine g_iconst (v := (-1)) (by decide +kernel : decode prog_1_method_9_code 30 = .ok (.iconst (-1), 1)) (by decide) ?_
    refine g_icmp_eq (tgt := 39) (by decide +kernel : decode prog_1_method_9_code 31 = .ok (.if_icmp .eq 8, 3)) (by decide) (fun q => absurd q.symm (m1_ne (by omega))) (fun _ => ?_)
    refine g_bipush (v := (-100)) (by decide +kernel : decode prog_1_method_9_code 34 = .ok (.bipush (-100), 2)) (by decide) ?_
    refine g_iload_n (by decide +kernel : decode prog_1_method_9_code 36 = .ok (.iload_n 2, 1)) rfl ?_
    refine g_isub (by decide +kernel : decode prog_1_method_9_code 37 = .ok (.isub, 1)) ?_
    exact g_iret hR (by decide +kernel : decode prog_1_method_9_code 38 = .ok (.ireturn, 1)) rfl ⟨_, rfl, by rw [hr]; exact ⟨rfl, X26⟩⟩
  · rw [show prK (Bt τ) t (t + 1) (sk (Bt τ) t 0) (beg f) = .inr g from hr] at h17
    obtain ⟨rfl, hIg, q2, S2⟩ := h17
    obtain ⟨z9, hz9⟩ := S2.2.1
    have h2 : g 2 = f 2 := (prK_z _ _ _ _ hr).trans (beg_2 f)
    refine g_istore_n (L' := [some (.ref 0), some (.ref 10), some (.int (-1))]) (by decide +kernel : decode prog_1_method_9_code 20 = .ok (.istore_n 2, 1)) (Nat.le_of_ble_eq_true rfl) rfl ?_
    refine g_aload_n (by decide +kernel : decode prog_1_method_9_code 21 = .ok (.aload_n 0, 1)) rfl ?_
    refine g_getR (by decide +kernel : decode prog_1_method_9_code 22 = .ok (.getfield 30, 3)) fl_LS_30 rfl rfl ?_
    refine g_iconst (v := nI 0) (by decide +kernel : decode prog_1_method_9_code 25 = .ok (.iconst 0, 1)) (by decide) ?_
    refine g_putI (by decide +kernel : decode prog_1_method_9_code 26 = .ok (.putfield 66, 3)) fl_LS_66 rfl rfl ?_
    have X26 := h.fr S2.2.2
    refine g_iload_n (by decide +kernel : decode prog_1_method_9_code 29 = .ok (.iload_n 2, 1)) rfl ?_
    refine g_iconst (v := (-1)) (by decide +kernel : decode prog_1_method_9_code 30 = .ok (.iconst (-1), 1)) (by decide) ?_
    refine g_icmp_eq (tgt := 39) (by decide +kernel : decode prog_1_method_9_code 31 = .ok (.if_icmp .eq 8, 3)) (by decide) (fun _ => ?_) (fun h => False.elim (by revert h; decide))
    refine g_aload_n (by decide +kernel : decode prog_1_method_9_code 39 = .ok (.aload_n 1, 1)) rfl ?_
    refine g_aload_n (by decide +kernel : decode prog_1_method_9_code 40 = .ok (.aload_n 0, 1)) rfl ?_
    refine g_getR (by decide +kernel : decode prog_1_method_9_code 41 = .ok (.getfield 20, 3)) fl_LS_20 rfl rfl ?_
    refine g_getI (by decide +kernel : decode prog_1_method_9_code 44 = .ok (.getfield 84, 3)) fl_LS_84.get rfl rfl ?_
    refine g_top (w := f 2) (X26.n.z) ?_
    refine g_putI (by decide +kernel : decode prog_1_method_9_code 47 = .ok (.putfield 84, 3)) fl_LS_84 rfl rfl ?_
    have X47 : RX (s_up (s_up s17 29 1 (nI 0)) 10 11 (f 2)) (s_up τ 0 6 (nI 0)) f := X26
    have T47 : RP (tV (s_up (s_up s17 29 1 (nI 0)) 10 11 (f 2))) g := by
      have := hz9.uz (f 2)
      rw [upd_upd, ← h2, upd_self] at this
      exact this.cg (k8 (by rw [h2]; rfl) rfl rfl rfl rfl rfl rfl rfl)
    refine g_aload_n (by decide +kernel : decode prog_1_method_9_code 50 = .ok (.aload_n 0, 1)) rfl ?_
    refine g_getR (by decide +kernel : decode prog_1_method_9_code 51 = .ok (.getfield 20, 3)) fl_LS_20 rfl rfl ?_
    refine g_aload_n (by decide +kernel : decode prog_1_method_9_code 54 = .ok (.aload_n 1, 1)) rfl ?_
    refine g_callVV [.ref 10] (by decide +kernel : decode prog_1_method_9_code 55 = .ok (.invokevirtual 87, 3)) lk_LS_87 (c_becNT X47 T47) rfl rfl rfl rfl (Nat.le_of_ble_eq_true rfl) (Nat.le_of_ble_eq_true rfl) (fun s55 h55 => ?_)
    have X55 := h55
    refine g_aload_n (by decide +kernel : decode prog_1_method_9_code 58 = .ok (.aload_n 0, 1)) rfl ?_
    refine g_getR (by decide +kernel : decode prog_1_method_9_code 59 = .ok (.getfield 37, 3)) fl_LS_37 rfl rfl ?_
    refine g_iconst (v := nI 0) (by decide +kernel : decode prog_1_method_9_code 62 = .ok (.iconst 0, 1)) (by decide) ?_
    refine g_putI (by decide +kernel : decode prog_1_method_9_code 63 = .ok (.putfield 91, 3)) fl_LS_91 rfl rfl ?_
    have X63 := X55.rwn (n := 0) (by decide)
    refine g_aload_n (by decide +kernel : decode prog_1_method_9_code 66 = .ok (.aload_n 0, 1)) rfl ?_
    refine g_getR (by decide +kernel : decode prog_1_method_9_code 67 = .ok (.getfield 20, 3)) fl_LS_20 rfl rfl ?_
    refine g_getI (by decide +kernel : decode prog_1_method_9_code 70 = .ok (.getfield 92, 3)) fl_LS_92.get rfl rfl ?_
    refine g_top (w := nI (nn g)) (X63.n.n) ?_
    exact g_iret hR (by decide +kernel : decode prog_1_method_9_code 73 = .ok (.ireturn, 1)) rfl ⟨_, rfl, by rw [hr]; exact ⟨hIg.n.1.symm, X63⟩⟩
