/-! THE REFERENCE: act; odds and hope -/
theorem aS_self {σ : Store} {B : Row} {r p : Nat} (h14 : σ 14 = B) (h22 : σ 0 22 = nI r) (h26 : σ 0 26 = nI p) : σ = aS σ B r p := by
  funext k
  unfold aS s_up s_row
  by_cases h : k = 0
  · subst h
    simp only [↓reduceIte]
    funext j
    unfold upd
    by_cases h1 : j = 26
    · subst h1; simpa using h26
    · by_cases h2 : j = 22
      · subst h2; simpa using h22
      · simp [h1, h2]
  · by_cases h3 : k = 14
    · subst h3; simpa using h14
    · simp [h, h3]
theorem wl_out (B : Row) : ∀ (l : List Int32) (r i : Nat), i < r → wl B r l i = B i := by
  intro l
  induction l generalizing B with
  | nil => intro r i _; rfl
  | cons c cs ih =>
    intro r i h
    show wl (upd B r c) (r + 1) cs i = _
    rw [ih _ _ _ (by omega), upd_n (by omega)]
theorem wl_get (B : Row) : ∀ (l : List Int32) (r i : Nat), i < l.length → wl B r l (r + i) = l.getD i 0 := by
  intro l
  induction l generalizing B with
  | nil => intro r i h; exact absurd h (Nat.not_lt_zero _)
  | cons c cs ih =>
    intro r i h
    show wl (upd B r c) (r + 1) cs (r + i) = _
    cases i with
    | zero => rw [wl_out _ _ _ _ (by omega), Nat.add_zero, upd_s]; rfl
    | succ i =>
      rw [show r + (i + 1) = (r + 1) + i by omega, ih _ _ _ (by simpa using h)]
      rfl
def actC (w k n a : Nat) : List Int32 := match w with
  | 0 => cC k
  | 1 => lC k
  | 2 => pC k n a
  | _ => kC k n a
def actW (w k n a : Nat) (x : Int32) : Int32 := match w with
  | 0 => cV k n x
  | 1 => lV k n a x
  | 2 => pV k n a x
  | _ => kV k n a x
/-- which act runs: the act, kind, number, wit -/
def actQ (σ : Store) (f : Row) (x y : Int32) : Option (Nat × Nat × Nat × Nat) := match rg 0 3 x with
  | none => none
  | some h => match rg 0 3 y with
    | none => none
    | some w => if hd σ f h = 1 then some (w, tn (f (19 + 6 * tn (σ 12 h) + 0)), tn (σ 12 h), tn (f (19 + 6 * tn (σ 12 h) + 2))) else none
def actV (σ : Store) (f : Row) (x y z : Int32) : Int32 := match actQ σ f x y with
  | none => nI 0
  | some q => if aP q.1 q.2.1 q.2.2.1 q.2.2.2 = 0 then actW q.1 q.2.1 q.2.2.1 q.2.2.2 z else -15
def actL (σ : Store) (f : Row) (x y : Int32) : List Int32 := match actQ σ f x y with
  | none => []
  | some q => actC q.1 q.2.1 q.2.2.1 q.2.2.2
def actP (σ : Store) (f b : Row) (x y z : Int32) : Option Value → Store → Prop := PI (fun r σ' => r = actV σ f x y z ∧ σ' 0 22 = nI (actL σ f x y).length ∧ (∀ i, i < (actL σ f x y).length → σ' 14 i = (actL σ f x y).getD i 0) ∧ (∀ c, c ≠ 0 → c ≠ 14 → σ' c = mS σ f b c) ∧ ∀ j, j < 22 → σ' 0 j = σ 0 j)
theorem aP_01 {w k n a : Nat} (h : w = 0 ∨ w = 1) : aP w k n a = 0 := by
  unfold aP
  split
  · rw [if_neg (by omega)]
  · rfl
theorem aP_le (w k n a : Nat) : aP w k n a ≤ 1 := by
  unfold aP
  split
  · split <;> omega
  · omega
/-- nothing acts: the trace is empty -/
theorem act_no {σ : Store} {f b : Row} {x y z : Int32} (h : actQ σ f x y = none) : actP σ f b x y z (some (.int (nI 0))) (mS (s_up σ 0 22 (nI 0)) f b) := by
  refine ⟨_, rfl, by unfold actV; rw [h], by unfold actL; rw [h]; rfl, fun i hi => by unfold actL at hi; rw [h] at hi; exact absurd hi (Nat.not_lt_zero _), fun c h1 h2 => ?_, fun j hj => ?_⟩
  · unfold mS s_up s_row; simp [h1]
  · show upd (σ 0) 22 (nI 0) j = _
    exact upd_n (by omega)
theorem act_yes {σ τ : Store} {f b : Row} {x y z v : Int32} {w k n a p : Nat} (h : actQ σ f x y = some (w, k, n, a)) (hp : p = aP w k n a) (hv : v = if p = 0 then actW w k n a z else -15) (ht : ∀ c, c ≠ 0 → τ c = mS σ f b c) (ht0 : ∀ j, j < 22 → τ 0 j = σ 0 j) : actP σ f b x y z (some (.int v)) (aS τ (wl (σ 14) 0 (actC w k n a)) (0 + (actC w k n a).length) p) := by
  have hL : actL σ f x y = actC w k n a := by unfold actL; rw [h]
  refine ⟨_, rfl, by unfold actV; rw [h]; dsimp only; rw [hv, hp], by rw [hL, Nat.zero_add]; rfl, fun i hi => ?_, fun c h1 h2 => ?_, fun j hj => ?_⟩
  · rw [hL] at hi ⊢
    show wl (σ 14) 0 (actC w k n a) i = _
    have := wl_get (σ 14) (actC w k n a) 0 i hi
    rw [Nat.zero_add] at this
    exact this
  · rw [← ht c h1]
    unfold aS s_up s_row; simp [h1, h2]
  · rw [← ht0 j hj]
    show upd (upd (τ 0) 22 _) 26 _ j = _
    rw [upd_n (by omega), upd_n (by omega)]
set_option maxRecDepth 20000 in
theorem q_act (σ : Store) (f b : Row) (hI : Inv f) (hV : SvI σ) (x y z : Int32) : Ct ΛM mt_Md_act 8 [.ref 0, .int x, .int y, .int z] (mS σ f b) (actP σ f b x y z) := by
  refine Ct.of (by decide) (Nat.le_of_ble_eq_true rfl) (fun X hR => ?_)
  show G (ΛM, mt_Md_act, 8) X (mS σ f b) [some (.ref 0), some (.int x), some (.int y), some (.int z), none] [] 0
  have hn8 := hI.n.2
  refine g_aload_n (by decide +kernel : decode prog_10_method_105_code 0 = .ok (.aload_n 0, 1)) rfl ?_
  refine g_iconst (v := nI 0) (by decide +kernel : decode prog_10_method_105_code 1 = .ok (.iconst 0, 1)) (by decide) ?_
  refine g_putI (by decide +kernel : decode prog_10_method_105_code 2 = .ok (.putfield 282, 3)) fl_Md_282 rfl rfl ?_
  refine g_sto (mS_uk _ _ _ _ _ (by decide) (by decide)) ?_
  refine g_iload_n (by decide +kernel : decode prog_10_method_105_code 5 = .ok (.iload_n 1, 1)) rfl ?_
  refine g_callSI [.int x] (by decide +kernel : decode prog_10_method_105_code 6 = .ok (.invokestatic 269, 3)) lk_Md_269 (m_isShelf ΛM (mS (s_up σ 0 22 (nI 0)) f b) x) rfl rfl (Nat.le_of_ble_eq_true rfl) (Nat.le_of_ble_eq_true rfl) (fun r6 s6 h6 => ?_)
  rcases h6 with ⟨rfl, ⟨rfl, h, ha6, hb6, rfl⟩ | ⟨rfl, n6⟩⟩
  · refine g_if_eqN (tgt := 33) (by decide +kernel : decode prog_10_method_105_code 9 = .ok (.ifCond .eq 24, 3)) (by decide) (by decide) (fun h => False.elim (by revert h; decide)) (fun _ => ?_)
    refine g_iload_n (by decide +kernel : decode prog_10_method_105_code 12 = .ok (.iload_n 2, 1)) rfl ?_
    refine g_i2l (by decide +kernel : decode prog_10_method_105_code 13 = .ok (.i2l, 1)) ?_
    refine g_lconst (v := lN 0) (by decide +kernel : decode prog_10_method_105_code 14 = .ok (.lconst 0, 1)) (by decide) ?_
    refine g_ldc2 (v := lN 3) (by decide +kernel : decode prog_10_method_105_code 15 = .ok (.ldc2_w 151, 3)) kc_Md_151 ?_
    refine g_callSI [.long (Int32.toInt64 y), .long (lN 0), .long (lN 3)] (by decide +kernel : decode prog_10_method_105_code 18 = .ok (.invokestatic 57, 3)) lk_Md_57 (m_isInN ΛM (mS (s_up σ 0 22 (nI 0)) f b) y 0 3) rfl rfl (Nat.le_of_ble_eq_true rfl) (Nat.le_of_ble_eq_true rfl) (fun r18 s18 h18 => ?_)
    rcases h18 with ⟨rfl, ⟨rfl, w, ha18, hb18, rfl⟩ | ⟨rfl, n18⟩⟩
    · refine g_if_eqN (tgt := 33) (by decide +kernel : decode prog_10_method_105_code 21 = .ok (.ifCond .eq 12, 3)) (by decide) (by decide) (fun h => False.elim (by revert h; decide)) (fun _ => ?_)
      obtain ⟨m, hm, e11⟩ := hV h (by omega)
      have hm2 : m ≤ 2 := hm
      rcases (show m = 0 ∨ m = 1 ∨ m = 2 by omega) with rfl | rfl | rfl
      · have ehd : hd σ f h = 0 := hd_m e11 (Or.inl rfl)
        refine g_aload_n (by decide +kernel : decode prog_10_method_105_code 24 = .ok (.aload_n 0, 1)) rfl ?_
        refine g_iload_n (by decide +kernel : decode prog_10_method_105_code 25 = .ok (.iload_n 1, 1)) rfl ?_
        refine g_callVI [.int (nI h)] (by decide +kernel : decode prog_10_method_105_code 26 = .ok (.invokevirtual 276, 3)) lk_Md_276 (m_heldOn (s_up σ 0 22 (nI 0)) f b hI hV h (by omega)) rfl rfl rfl rfl (Nat.le_of_ble_eq_true rfl) (Nat.le_of_ble_eq_true rfl) (fun r26 s26 h26 => ?_)
        obtain ⟨rfl, rfl⟩ := h26
        refine g_top (w := nI 0) (by show nI (hd σ f h) = nI 0; rw [ehd]) ?_
        refine g_iconst (v := nI 1) (by decide +kernel : decode prog_10_method_105_code 29 = .ok (.iconst 1, 1)) (by decide) ?_
        refine g_icmp_eqN (tgt := 35) (by decide +kernel : decode prog_10_method_105_code 30 = .ok (.if_icmp .eq 5, 3)) (by decide) (by decide) (by decide) (fun h => False.elim (by revert h; decide)) (fun _ => ?_)
        refine g_iconst (v := nI 0) (by decide +kernel : decode prog_10_method_105_code 33 = .ok (.iconst 0, 1)) (by decide) ?_
        exact g_iret hR (by decide +kernel : decode prog_10_method_105_code 34 = .ok (.ireturn, 1)) rfl (act_no (σ := σ) (f := f) (by unfold actQ; simp only [rg_of ha6 hb6, rg_of ha18 hb18]; rw [if_neg (by rw [ehd]; decide)]))
      · by_cases hz : ∃ j, j < nn f ∧ σ 12 h = nI j
        · obtain ⟨j, hj, e12⟩ := hz
          have ehd : hd σ f h = 1 := hd_1 hI e11 hj e12
          have htj : tn (σ 12 h) = j := by rw [e12, tn_nI (by omega)]
          refine g_aload_n (by decide +kernel : decode prog_10_method_105_code 24 = .ok (.aload_n 0, 1)) rfl ?_
          refine g_iload_n (by decide +kernel : decode prog_10_method_105_code 25 = .ok (.iload_n 1, 1)) rfl ?_
          refine g_callVI [.int (nI h)] (by decide +kernel : decode prog_10_method_105_code 26 = .ok (.invokevirtual 276, 3)) lk_Md_276 (m_heldOn (s_up σ 0 22 (nI 0)) f b hI hV h (by omega)) rfl rfl rfl rfl (Nat.le_of_ble_eq_true rfl) (Nat.le_of_ble_eq_true rfl) (fun r26 s26 h26 => ?_)
          obtain ⟨rfl, rfl⟩ := h26
          refine g_top (w := nI 1) (by show nI (hd σ f h) = nI 1; rw [ehd]) ?_
          refine g_iconst (v := nI 1) (by decide +kernel : decode prog_10_method_105_code 29 = .ok (.iconst 1, 1)) (by decide) ?_
          refine g_icmp_eqN (tgt := 35) (by decide +kernel : decode prog_10_method_105_code 30 = .ok (.if_icmp .eq 5, 3)) (by decide) (by decide) (by decide) (fun _ => ?_) (fun h => False.elim (by revert h; decide))
          refine g_aload_n (by decide +kernel : decode prog_10_method_105_code 35 = .ok (.aload_n 0, 1)) rfl ?_
          refine g_iconst (v := nI 0) (by decide +kernel : decode prog_10_method_105_code 36 = .ok (.iconst 0, 1)) (by decide) ?_
          refine g_putZ (by decide +kernel : decode prog_10_method_105_code 37 = .ok (.putfield 309, 3)) fl_Md_309 rfl rfl (by decide) ?_
          refine g_sto (mS_uk _ _ _ _ _ (by decide) (by decide)) ?_
          refine g_aload_n (by decide +kernel : decode prog_10_method_105_code 40 = .ok (.aload_n 0, 1)) rfl ?_
          refine g_aload_n (by decide +kernel : decode prog_10_method_105_code 41 = .ok (.aload_n 0, 1)) rfl ?_
          refine g_aload_n (by decide +kernel : decode prog_10_method_105_code 42 = .ok (.aload_n 0, 1)) rfl ?_
          refine g_getR (by decide +kernel : decode prog_10_method_105_code 43 = .ok (.getfield 43, 3)) fl_Md_43 rfl rfl ?_
          refine g_iload_n (by decide +kernel : decode prog_10_method_105_code 46 = .ok (.iload_n 1, 1)) rfl ?_
          refine g_iaload (a := h) (by decide +kernel : decode prog_10_method_105_code 47 = .ok (.iaload, 1)) rfl rfl (by first | omega | (have h9 := aP_le 2 (tn (f (19 + 6 * j + 0))) j (tn (f (19 + 6 * j + 2))); omega) | (have h9 := aP_le 3 (tn (f (19 + 6 * j + 0))) j (tn (f (19 + 6 * j + 2))); omega)) (by decide) ?_
          refine g_top (w := nI j) (e12) ?_
          refine g_iconst (v := nI 0) (by decide +kernel : decode prog_10_method_105_code 48 = .ok (.iconst 0, 1)) (by decide) ?_
          refine g_callVI [.int (nI j), .int (nI 0)] (by decide +kernel : decode prog_10_method_105_code 49 = .ok (.invokevirtual 169, 3)) lk_Md_169 (m_its (mS (s_up (s_up σ 0 22 (nI 0)) 0 26 (nI 0)) f b) j 0 (hI.p hj 0).1 (by omega)) rfl rfl rfl rfl (Nat.le_of_ble_eq_true rfl) (Nat.le_of_ble_eq_true rfl) (fun r49 s49 h49 => ?_)
          obtain ⟨rfl, rfl⟩ := h49
          refine g_putI (by decide +kernel : decode prog_10_method_105_code 52 = .ok (.putfield 294, 3)) fl_Md_294 rfl rfl ?_
          refine g_sto (mS_uk _ _ _ _ _ (by decide) (by decide)) ?_
          refine g_aload_n (by decide +kernel : decode prog_10_method_105_code 55 = .ok (.aload_n 0, 1)) rfl ?_
          refine g_aload_n (by decide +kernel : decode prog_10_method_105_code 56 = .ok (.aload_n 0, 1)) rfl ?_
          refine g_getR (by decide +kernel : decode prog_10_method_105_code 57 = .ok (.getfield 43, 3)) fl_Md_43 rfl rfl ?_
          refine g_iload_n (by decide +kernel : decode prog_10_method_105_code 60 = .ok (.iload_n 1, 1)) rfl ?_
          refine g_iaload (a := h) (by decide +kernel : decode prog_10_method_105_code 61 = .ok (.iaload, 1)) rfl rfl (by first | omega | (have h9 := aP_le 2 (tn (f (19 + 6 * j + 0))) j (tn (f (19 + 6 * j + 2))); omega) | (have h9 := aP_le 3 (tn (f (19 + 6 * j + 0))) j (tn (f (19 + 6 * j + 2))); omega)) (by decide) ?_
          refine g_top (w := nI j) (e12) ?_
          refine g_putI (by decide +kernel : decode prog_10_method_105_code 62 = .ok (.putfield 288, 3)) fl_Md_288 rfl rfl ?_
          refine g_sto (mS_uk _ _ _ _ _ (by decide) (by decide)) ?_
          refine g_aload_n (by decide +kernel : decode prog_10_method_105_code 65 = .ok (.aload_n 0, 1)) rfl ?_
          refine g_aload_n (by decide +kernel : decode prog_10_method_105_code 66 = .ok (.aload_n 0, 1)) rfl ?_
          refine g_aload_n (by decide +kernel : decode prog_10_method_105_code 67 = .ok (.aload_n 0, 1)) rfl ?_
          refine g_getR (by decide +kernel : decode prog_10_method_105_code 68 = .ok (.getfield 43, 3)) fl_Md_43 rfl rfl ?_
          refine g_iload_n (by decide +kernel : decode prog_10_method_105_code 71 = .ok (.iload_n 1, 1)) rfl ?_
          refine g_iaload (a := h) (by decide +kernel : decode prog_10_method_105_code 72 = .ok (.iaload, 1)) rfl rfl (by first | omega | (have h9 := aP_le 2 (tn (f (19 + 6 * j + 0))) j (tn (f (19 + 6 * j + 2))); omega) | (have h9 := aP_le 3 (tn (f (19 + 6 * j + 0))) j (tn (f (19 + 6 * j + 2))); omega)) (by decide) ?_
          refine g_top (w := nI j) (e12) ?_
          refine g_iconst (v := nI 2) (by decide +kernel : decode prog_10_method_105_code 73 = .ok (.iconst 2, 1)) (by decide) ?_
          refine g_callVI [.int (nI j), .int (nI 2)] (by decide +kernel : decode prog_10_method_105_code 74 = .ok (.invokevirtual 169, 3)) lk_Md_169 (m_its (mS (s_up (s_up (s_up (s_up σ 0 22 (nI 0)) 0 26 (nI 0)) 0 23 (nI (tn (f (19 + 6 * j + 0))))) 0 24 (nI j)) f b) j 2 (hI.p hj 2).1 (by omega)) rfl rfl rfl rfl (Nat.le_of_ble_eq_true rfl) (Nat.le_of_ble_eq_true rfl) (fun r74 s74 h74 => ?_)
          obtain ⟨rfl, rfl⟩ := h74
          refine g_putI (by decide +kernel : decode prog_10_method_105_code 77 = .ok (.putfield 303, 3)) fl_Md_303 rfl rfl ?_
          refine g_sto (mS_uk _ _ _ _ _ (by decide) (by decide)) ?_
          rcases (show w = 0 ∨ w = 1 ∨ w = 2 ∨ w = 3 by omega) with rfl | rfl | rfl | rfl
          · refine g_iload_n (by decide +kernel : decode prog_10_method_105_code 80 = .ok (.iload_n 2, 1)) rfl ?_
            refine g_if_neN (tgt := 92) (by decide +kernel : decode prog_10_method_105_code 81 = .ok (.ifCond .ne 11, 3)) (by decide) (by decide) (fun h => False.elim (by revert h; decide)) (fun _ => ?_)
            refine g_aload_n (by decide +kernel : decode prog_10_method_105_code 84 = .ok (.aload_n 0, 1)) rfl ?_
            refine g_iload_n (by decide +kernel : decode prog_10_method_105_code 85 = .ok (.iload_n 3, 1)) rfl ?_
            refine g_sto (σ' := aS (mS (s_up (s_up (s_up (s_up (s_up σ 0 22 (nI 0)) 0 26 (nI 0)) 0 23 (nI (tn (f (19 + 6 * j + 0))))) 0 24 (nI j)) 0 25 (nI (tn (f (19 + 6 * j + 2))))) f b) (σ 14) 0 0) (aS_self rfl rfl rfl) ?_
            refine g_callVI [.int z] (by decide +kernel : decode prog_10_method_105_code 86 = .ok (.invokevirtual 300, 3)) lk_Md_300 (m_countsG (mS (s_up (s_up (s_up (s_up (s_up σ 0 22 (nI 0)) 0 26 (nI 0)) 0 23 (nI (tn (f (19 + 6 * j + 0))))) 0 24 (nI j)) 0 25 (nI (tn (f (19 + 6 * j + 2))))) f b) (σ 14) 0 z (k := tn (f (19 + 6 * j + 0))) (n := j) (a := tn (f (19 + 6 * j + 2))) (by have h9 : tn (f (19 + 6 * j + 0)) ≤ 5 := (hI.p hj 0).2; exact h9) rfl rfl rfl (by decide)) rfl rfl rfl rfl (Nat.le_of_ble_eq_true rfl) (Nat.le_of_ble_eq_true rfl) (fun r86 s86 h86 => ?_)
            obtain ⟨rfl, rfl⟩ := h86
            refine g_goto (tgt := 123) (by decide +kernel : decode prog_10_method_105_code 89 = .ok (.goto 34, 3)) (by decide) ?_
            refine g_istore (L' := [some (.ref 0), some (.int (nI h)), some (.int (nI 0)), some (.int z), some (.int (cV (tn (f (19 + 6 * j + 0))) j z))]) (by decide +kernel : decode prog_10_method_105_code 123 = .ok (.istore 4, 2)) (Nat.le_of_ble_eq_true rfl) rfl ?_
            refine g_aload_n (by decide +kernel : decode prog_10_method_105_code 125 = .ok (.aload_n 0, 1)) rfl ?_
            refine g_getI (by decide +kernel : decode prog_10_method_105_code 126 = .ok (.getfield 309, 3)) fl_Md_309.get rfl rfl ?_
            refine g_top (w := nI 0) (rfl) ?_
            refine g_if_eqN (tgt := 137) (by decide +kernel : decode prog_10_method_105_code 129 = .ok (.ifCond .eq 8, 3)) (by decide) (by decide) (fun _ => ?_) (fun h => False.elim (by revert h; decide))
            refine g_iload (by decide +kernel : decode prog_10_method_105_code 137 = .ok (.iload 4, 2)) rfl ?_
            exact g_iret hR (by decide +kernel : decode prog_10_method_105_code 139 = .ok (.ireturn, 1)) rfl (act_yes (σ := σ) (f := f) (b := b) (x := nI h) (y := nI 0) (z := z) (w := 0) (k := tn (f (19 + 6 * j + 0))) (n := j) (a := tn (f (19 + 6 * j + 2))) (τ := mS (s_up (s_up (s_up (s_up (s_up σ 0 22 (nI 0)) 0 26 (nI 0)) 0 23 (nI (tn (f (19 + 6 * j + 0))))) 0 24 (nI j)) 0 25 (nI (tn (f (19 + 6 * j + 2))))) f b) (by unfold actQ; simp only [rg_of ha6 hb6, rg_of ha18 hb18]; rw [if_pos ehd, htj]) ((aP_01 (by decide)).symm) ((if_pos rfl).symm) (fun c h1 => by unfold mS s_up s_row; simp [h1]) (fun q hq => by show upd (upd (upd (upd (upd (σ 0) 22 _) 26 _) 23 _) 24 _) 25 _ q = _; simp (disch := omega) only [upd_n]))
          · refine g_iload_n (by decide +kernel : decode prog_10_method_105_code 80 = .ok (.iload_n 2, 1)) rfl ?_
            refine g_if_neN (tgt := 92) (by decide +kernel : decode prog_10_method_105_code 81 = .ok (.ifCond .ne 11, 3)) (by decide) (by decide) (fun _ => ?_) (fun h => False.elim (by revert h; decide))
            refine g_iload_n (by decide +kernel : decode prog_10_method_105_code 92 = .ok (.iload_n 2, 1)) rfl ?_
            refine g_iconst (v := nI 1) (by decide +kernel : decode prog_10_method_105_code 93 = .ok (.iconst 1, 1)) (by decide) ?_
            refine g_icmp_neN (tgt := 105) (by decide +kernel : decode prog_10_method_105_code 94 = .ok (.if_icmp .ne 11, 3)) (by decide) (by decide) (by decide) (fun h => False.elim (by revert h; decide)) (fun _ => ?_)
            refine g_aload_n (by decide +kernel : decode prog_10_method_105_code 97 = .ok (.aload_n 0, 1)) rfl ?_
            refine g_iload_n (by decide +kernel : decode prog_10_method_105_code 98 = .ok (.iload_n 3, 1)) rfl ?_
            refine g_sto (σ' := aS (mS (s_up (s_up (s_up (s_up (s_up σ 0 22 (nI 0)) 0 26 (nI 0)) 0 23 (nI (tn (f (19 + 6 * j + 0))))) 0 24 (nI j)) 0 25 (nI (tn (f (19 + 6 * j + 2))))) f b) (σ 14) 0 0) (aS_self rfl rfl rfl) ?_
            refine g_callVI [.int z] (by decide +kernel : decode prog_10_method_105_code 99 = .ok (.invokevirtual 315, 3)) lk_Md_315 (m_callsG (mS (s_up (s_up (s_up (s_up (s_up σ 0 22 (nI 0)) 0 26 (nI 0)) 0 23 (nI (tn (f (19 + 6 * j + 0))))) 0 24 (nI j)) 0 25 (nI (tn (f (19 + 6 * j + 2))))) f b) (σ 14) 0 z (k := tn (f (19 + 6 * j + 0))) (n := j) (a := tn (f (19 + 6 * j + 2))) (by have h9 : tn (f (19 + 6 * j + 0)) ≤ 5 := (hI.p hj 0).2; exact h9) rfl rfl rfl (by decide)) rfl rfl rfl rfl (Nat.le_of_ble_eq_true rfl) (Nat.le_of_ble_eq_true rfl) (fun r99 s99 h99 => ?_)
            obtain ⟨rfl, rfl⟩ := h99
            refine g_goto (tgt := 123) (by decide +kernel : decode prog_10_method_105_code 102 = .ok (.goto 21, 3)) (by decide) ?_
            refine g_istore (L' := [some (.ref 0), some (.int (nI h)), some (.int (nI 1)), some (.int z), some (.int (lV (tn (f (19 + 6 * j + 0))) j (tn (f (19 + 6 * j + 2))) z))]) (by decide +kernel : decode prog_10_method_105_code 123 = .ok (.istore 4, 2)) (Nat.le_of_ble_eq_true rfl) rfl ?_
            refine g_aload_n (by decide +kernel : decode prog_10_method_105_code 125 = .ok (.aload_n 0, 1)) rfl ?_
            refine g_getI (by decide +kernel : decode prog_10_method_105_code 126 = .ok (.getfield 309, 3)) fl_Md_309.get rfl rfl ?_
            refine g_top (w := nI 0) (rfl) ?_
            refine g_if_eqN (tgt := 137) (by decide +kernel : decode prog_10_method_105_code 129 = .ok (.ifCond .eq 8, 3)) (by decide) (by decide) (fun _ => ?_) (fun h => False.elim (by revert h; decide))
            refine g_iload (by decide +kernel : decode prog_10_method_105_code 137 = .ok (.iload 4, 2)) rfl ?_
            exact g_iret hR (by decide +kernel : decode prog_10_method_105_code 139 = .ok (.ireturn, 1)) rfl (act_yes (σ := σ) (f := f) (b := b) (x := nI h) (y := nI 1) (z := z) (w := 1) (k := tn (f (19 + 6 * j + 0))) (n := j) (a := tn (f (19 + 6 * j + 2))) (τ := mS (s_up (s_up (s_up (s_up (s_up σ 0 22 (nI 0)) 0 26 (nI 0)) 0 23 (nI (tn (f (19 + 6 * j + 0))))) 0 24 (nI j)) 0 25 (nI (tn (f (19 + 6 * j + 2))))) f b) (by unfold actQ; simp only [rg_of ha6 hb6, rg_of ha18 hb18]; rw [if_pos ehd, htj]) ((aP_01 (by decide)).symm) ((if_pos rfl).symm) (fun c h1 => by unfold mS s_up s_row; simp [h1]) (fun q hq => by show upd (upd (upd (upd (upd (σ 0) 22 _) 26 _) 23 _) 24 _) 25 _ q = _; simp (disch := omega) only [upd_n]))
          · refine g_iload_n (by decide +kernel : decode prog_10_method_105_code 80 = .ok (.iload_n 2, 1)) rfl ?_
            refine g_if_neN (tgt := 92) (by decide +kernel : decode prog_10_method_105_code 81 = .ok (.ifCond .ne 11, 3)) (by decide) (by decide) (fun _ => ?_) (fun h => False.elim (by revert h; decide))
            refine g_iload_n (by decide +kernel : decode prog_10_method_105_code 92 = .ok (.iload_n 2, 1)) rfl ?_
            refine g_iconst (v := nI 1) (by decide +kernel : decode prog_10_method_105_code 93 = .ok (.iconst 1, 1)) (by decide) ?_
            refine g_icmp_neN (tgt := 105) (by decide +kernel : decode prog_10_method_105_code 94 = .ok (.if_icmp .ne 11, 3)) (by decide) (by decide) (by decide) (fun _ => ?_) (fun h => False.elim (by revert h; decide))
            refine g_iload_n (by decide +kernel : decode prog_10_method_105_code 105 = .ok (.iload_n 2, 1)) rfl ?_
            refine g_iconst (v := nI 2) (by decide +kernel : decode prog_10_method_105_code 106 = .ok (.iconst 2, 1)) (by decide) ?_
            refine g_icmp_neN (tgt := 118) (by decide +kernel : decode prog_10_method_105_code 107 = .ok (.if_icmp .ne 11, 3)) (by decide) (by decide) (by decide) (fun h => False.elim (by revert h; decide)) (fun _ => ?_)
            refine g_aload_n (by decide +kernel : decode prog_10_method_105_code 110 = .ok (.aload_n 0, 1)) rfl ?_
            refine g_iload_n (by decide +kernel : decode prog_10_method_105_code 111 = .ok (.iload_n 3, 1)) rfl ?_
            refine g_sto (σ' := aS (mS (s_up (s_up (s_up (s_up (s_up σ 0 22 (nI 0)) 0 26 (nI 0)) 0 23 (nI (tn (f (19 + 6 * j + 0))))) 0 24 (nI j)) 0 25 (nI (tn (f (19 + 6 * j + 2))))) f b) (σ 14) 0 0) (aS_self rfl rfl rfl) ?_
            refine g_callVI [.int z] (by decide +kernel : decode prog_10_method_105_code 112 = .ok (.invokevirtual 321, 3)) lk_Md_321 (m_partsG (mS (s_up (s_up (s_up (s_up (s_up σ 0 22 (nI 0)) 0 26 (nI 0)) 0 23 (nI (tn (f (19 + 6 * j + 0))))) 0 24 (nI j)) 0 25 (nI (tn (f (19 + 6 * j + 2))))) f b) (σ 14) 0 z (k := tn (f (19 + 6 * j + 0))) (n := j) (a := tn (f (19 + 6 * j + 2))) (by have h9 : tn (f (19 + 6 * j + 0)) ≤ 5 := (hI.p hj 0).2; exact h9) rfl rfl rfl (by decide) (by omega) (by have h9 : tn (f (19 + 6 * j + 2)) ≤ 9 := (hI.p hj 2).2; exact h9)) rfl rfl rfl rfl (Nat.le_of_ble_eq_true rfl) (Nat.le_of_ble_eq_true rfl) (fun r112 s112 h112 => ?_)
            obtain ⟨rfl, rfl⟩ := h112
            refine g_goto (tgt := 123) (by decide +kernel : decode prog_10_method_105_code 115 = .ok (.goto 8, 3)) (by decide) ?_
            refine g_istore (L' := [some (.ref 0), some (.int (nI h)), some (.int (nI 2)), some (.int z), some (.int (pV (tn (f (19 + 6 * j + 0))) j (tn (f (19 + 6 * j + 2))) z))]) (by decide +kernel : decode prog_10_method_105_code 123 = .ok (.istore 4, 2)) (Nat.le_of_ble_eq_true rfl) rfl ?_
            refine g_aload_n (by decide +kernel : decode prog_10_method_105_code 125 = .ok (.aload_n 0, 1)) rfl ?_
            refine g_getI (by decide +kernel : decode prog_10_method_105_code 126 = .ok (.getfield 309, 3)) fl_Md_309.get rfl rfl ?_
            refine g_top (w := nI (aP 2 (tn (f (19 + 6 * j + 0))) j (tn (f (19 + 6 * j + 2))))) (rfl) ?_
            refine g_if_eqN (tgt := 137) (by decide +kernel : decode prog_10_method_105_code 129 = .ok (.ifCond .eq 8, 3)) (by decide) (by first | omega | (have h9 := aP_le 2 (tn (f (19 + 6 * j + 0))) j (tn (f (19 + 6 * j + 2))); omega) | (have h9 := aP_le 3 (tn (f (19 + 6 * j + 0))) j (tn (f (19 + 6 * j + 2))); omega)) (fun h129 => ?_) (fun h129 => ?_)
            · refine g_iload (by decide +kernel : decode prog_10_method_105_code 137 = .ok (.iload 4, 2)) rfl ?_
              exact g_iret hR (by decide +kernel : decode prog_10_method_105_code 139 = .ok (.ireturn, 1)) rfl (act_yes (σ := σ) (f := f) (b := b) (x := nI h) (y := nI 2) (z := z) (w := 2) (k := tn (f (19 + 6 * j + 0))) (n := j) (a := tn (f (19 + 6 * j + 2))) (τ := mS (s_up (s_up (s_up (s_up (s_up σ 0 22 (nI 0)) 0 26 (nI 0)) 0 23 (nI (tn (f (19 + 6 * j + 0))))) 0 24 (nI j)) 0 25 (nI (tn (f (19 + 6 * j + 2))))) f b) (by unfold actQ; simp only [rg_of ha6 hb6, rg_of ha18 hb18]; rw [if_pos ehd, htj]) (rfl) ((if_pos h129).symm) (fun c h1 => by unfold mS s_up s_row; simp [h1]) (fun q hq => by show upd (upd (upd (upd (upd (σ 0) 22 _) 26 _) 23 _) 24 _) 25 _ q = _; simp (disch := omega) only [upd_n]))
            · refine g_bipush (v := (-15)) (by decide +kernel : decode prog_10_method_105_code 132 = .ok (.bipush (-15), 2)) (by decide) ?_
              refine g_goto (tgt := 139) (by decide +kernel : decode prog_10_method_105_code 134 = .ok (.goto 5, 3)) (by decide) ?_
              exact g_iret hR (by decide +kernel : decode prog_10_method_105_code 139 = .ok (.ireturn, 1)) rfl (act_yes (σ := σ) (f := f) (b := b) (x := nI h) (y := nI 2) (z := z) (w := 2) (k := tn (f (19 + 6 * j + 0))) (n := j) (a := tn (f (19 + 6 * j + 2))) (τ := mS (s_up (s_up (s_up (s_up (s_up σ 0 22 (nI 0)) 0 26 (nI 0)) 0 23 (nI (tn (f (19 + 6 * j + 0))))) 0 24 (nI j)) 0 25 (nI (tn (f (19 + 6 * j + 2))))) f b) (by unfold actQ; simp only [rg_of ha6 hb6, rg_of ha18 hb18]; rw [if_pos ehd, htj]) (rfl) ((if_neg h129).symm) (fun c h1 => by unfold mS s_up s_row; simp [h1]) (fun q hq => by show upd (upd (upd (upd (upd (σ 0) 22 _) 26 _) 23 _) 24 _) 25 _ q = _; simp (disch := omega) only [upd_n]))
          · refine g_iload_n (by decide +kernel : decode prog_10_method_105_code 80 = .ok (.iload_n 2, 1)) rfl ?_
            refine g_if_neN (tgt := 92) (by decide +kernel : decode prog_10_method_105_code 81 = .ok (.ifCond .ne 11, 3)) (by decide) (by decide) (fun _ => ?_) (fun h => False.elim (by revert h; decide))
            refine g_iload_n (by decide +kernel : decode prog_10_method_105_code 92 = .ok (.iload_n 2, 1)) rfl ?_
            refine g_iconst (v := nI 1) (by decide +kernel : decode prog_10_method_105_code 93 = .ok (.iconst 1, 1)) (by decide) ?_
            refine g_icmp_neN (tgt := 105) (by decide +kernel : decode prog_10_method_105_code 94 = .ok (.if_icmp .ne 11, 3)) (by decide) (by decide) (by decide) (fun _ => ?_) (fun h => False.elim (by revert h; decide))
            refine g_iload_n (by decide +kernel : decode prog_10_method_105_code 105 = .ok (.iload_n 2, 1)) rfl ?_
            refine g_iconst (v := nI 2) (by decide +kernel : decode prog_10_method_105_code 106 = .ok (.iconst 2, 1)) (by decide) ?_
            refine g_icmp_neN (tgt := 118) (by decide +kernel : decode prog_10_method_105_code 107 = .ok (.if_icmp .ne 11, 3)) (by decide) (by decide) (by decide) (fun _ => ?_) (fun h => False.elim (by revert h; decide))
            refine g_aload_n (by decide +kernel : decode prog_10_method_105_code 118 = .ok (.aload_n 0, 1)) rfl ?_
            refine g_iload_n (by decide +kernel : decode prog_10_method_105_code 119 = .ok (.iload_n 3, 1)) rfl ?_
            refine g_sto (σ' := aS (mS (s_up (s_up (s_up (s_up (s_up σ 0 22 (nI 0)) 0 26 (nI 0)) 0 23 (nI (tn (f (19 + 6 * j + 0))))) 0 24 (nI j)) 0 25 (nI (tn (f (19 + 6 * j + 2))))) f b) (σ 14) 0 0) (aS_self rfl rfl rfl) ?_
            refine g_callVI [.int z] (by decide +kernel : decode prog_10_method_105_code 120 = .ok (.invokevirtual 324, 3)) lk_Md_324 (m_looksG (mS (s_up (s_up (s_up (s_up (s_up σ 0 22 (nI 0)) 0 26 (nI 0)) 0 23 (nI (tn (f (19 + 6 * j + 0))))) 0 24 (nI j)) 0 25 (nI (tn (f (19 + 6 * j + 2))))) f b) (σ 14) 0 z (k := tn (f (19 + 6 * j + 0))) (n := j) (a := tn (f (19 + 6 * j + 2))) (by have h9 : tn (f (19 + 6 * j + 0)) ≤ 5 := (hI.p hj 0).2; exact h9) rfl rfl rfl (by decide) (by omega) (by have h9 : tn (f (19 + 6 * j + 2)) ≤ 9 := (hI.p hj 2).2; exact h9)) rfl rfl rfl rfl (Nat.le_of_ble_eq_true rfl) (Nat.le_of_ble_eq_true rfl) (fun r120 s120 h120 => ?_)
            obtain ⟨rfl, rfl⟩ := h120
            refine g_istore (L' := [some (.ref 0), some (.int (nI h)), some (.int (nI 3)), some (.int z), some (.int (kV (tn (f (19 + 6 * j + 0))) j (tn (f (19 + 6 * j + 2))) z))]) (by decide +kernel : decode prog_10_method_105_code 123 = .ok (.istore 4, 2)) (Nat.le_of_ble_eq_true rfl) rfl ?_
            refine g_aload_n (by decide +kernel : decode prog_10_method_105_code 125 = .ok (.aload_n 0, 1)) rfl ?_
            refine g_getI (by decide +kernel : decode prog_10_method_105_code 126 = .ok (.getfield 309, 3)) fl_Md_309.get rfl rfl ?_
            refine g_top (w := nI (aP 3 (tn (f (19 + 6 * j + 0))) j (tn (f (19 + 6 * j + 2))))) (rfl) ?_
            refine g_if_eqN (tgt := 137) (by decide +kernel : decode prog_10_method_105_code 129 = .ok (.ifCond .eq 8, 3)) (by decide) (by first | omega | (have h9 := aP_le 2 (tn (f (19 + 6 * j + 0))) j (tn (f (19 + 6 * j + 2))); omega) | (have h9 := aP_le 3 (tn (f (19 + 6 * j + 0))) j (tn (f (19 + 6 * j + 2))); omega)) (fun h129 => ?_) (fun h129 => ?_)
            · refine g_iload (by decide +kernel : decode prog_10_method_105_code 137 = .ok (.iload 4, 2)) rfl ?_
              exact g_iret hR (by decide +kernel : decode prog_10_method_105_code 139 = .ok (.ireturn, 1)) rfl (act_yes (σ := σ) (f := f) (b := b) (x := nI h) (y := nI 3) (z := z) (w := 3) (k := tn (f (19 + 6 * j + 0))) (n := j) (a := tn (f (19 + 6 * j + 2))) (τ := mS (s_up (s_up (s_up (s_up (s_up σ 0 22 (nI 0)) 0 26 (nI 0)) 0 23 (nI (tn (f (19 + 6 * j + 0))))) 0 24 (nI j)) 0 25 (nI (tn (f (19 + 6 * j + 2))))) f b) (by unfold actQ; simp only [rg_of ha6 hb6, rg_of ha18 hb18]; rw [if_pos ehd, htj]) (rfl) ((if_pos h129).symm) (fun c h1 => by unfold mS s_up s_row; simp [h1]) (fun q hq => by show upd (upd (upd (upd (upd (σ 0) 22 _) 26 _) 23 _) 24 _) 25 _ q = _; simp (disch := omega) only [upd_n]))
            · refine g_bipush (v := (-15)) (by decide +kernel : decode prog_10_method_105_code 132 = .ok (.bipush (-15), 2)) (by decide) ?_
              refine g_goto (tgt := 139) (by decide +kernel : decode prog_10_method_105_code 134 = .ok (.goto 5, 3)) (by decide) ?_
              exact g_iret hR (by decide +kernel : decode prog_10_method_105_code 139 = .ok (.ireturn, 1)) rfl (act_yes (σ := σ) (f := f) (b := b) (x := nI h) (y := nI 3) (z := z) (w := 3) (k := tn (f (19 + 6 * j + 0))) (n := j) (a := tn (f (19 + 6 * j + 2))) (τ := mS (s_up (s_up (s_up (s_up (s_up σ 0 22 (nI 0)) 0 26 (nI 0)) 0 23 (nI (tn (f (19 + 6 * j + 0))))) 0 24 (nI j)) 0 25 (nI (tn (f (19 + 6 * j + 2))))) f b) (by unfold actQ; simp only [rg_of ha6 hb6, rg_of ha18 hb18]; rw [if_pos ehd, htj]) (rfl) ((if_neg h129).symm) (fun c h1 => by unfold mS s_up s_row; simp [h1]) (fun q hq => by show upd (upd (upd (upd (upd (σ 0) 22 _) 26 _) 23 _) 24 _) 25 _ q = _; simp (disch := omega) only [upd_n]))
        · have ehd : hd σ f h = 0 := hd_n hI e11 hz
          refine g_aload_n (by decide +kernel : decode prog_10_method_105_code 24 = .ok (.aload_n 0, 1)) rfl ?_
          refine g_iload_n (by decide +kernel : decode prog_10_method_105_code 25 = .ok (.iload_n 1, 1)) rfl ?_
          refine g_callVI [.int (nI h)] (by decide +kernel : decode prog_10_method_105_code 26 = .ok (.invokevirtual 276, 3)) lk_Md_276 (m_heldOn (s_up σ 0 22 (nI 0)) f b hI hV h (by omega)) rfl rfl rfl rfl (Nat.le_of_ble_eq_true rfl) (Nat.le_of_ble_eq_true rfl) (fun r26 s26 h26 => ?_)
          obtain ⟨rfl, rfl⟩ := h26
          refine g_top (w := nI 0) (by show nI (hd σ f h) = nI 0; rw [ehd]) ?_
          refine g_iconst (v := nI 1) (by decide +kernel : decode prog_10_method_105_code 29 = .ok (.iconst 1, 1)) (by decide) ?_
          refine g_icmp_eqN (tgt := 35) (by decide +kernel : decode prog_10_method_105_code 30 = .ok (.if_icmp .eq 5, 3)) (by decide) (by decide) (by decide) (fun h => False.elim (by revert h; decide)) (fun _ => ?_)
          refine g_iconst (v := nI 0) (by decide +kernel : decode prog_10_method_105_code 33 = .ok (.iconst 0, 1)) (by decide) ?_
          exact g_iret hR (by decide +kernel : decode prog_10_method_105_code 34 = .ok (.ireturn, 1)) rfl (act_no (σ := σ) (f := f) (by unfold actQ; simp only [rg_of ha6 hb6, rg_of ha18 hb18]; rw [if_neg (by rw [ehd]; decide)]))
      · have ehd : hd σ f h = 2 := hd_m e11 (Or.inr rfl)
        refine g_aload_n (by decide +kernel : decode prog_10_method_105_code 24 = .ok (.aload_n 0, 1)) rfl ?_
        refine g_iload_n (by decide +kernel : decode prog_10_method_105_code 25 = .ok (.iload_n 1, 1)) rfl ?_
        refine g_callVI [.int (nI h)] (by decide +kernel : decode prog_10_method_105_code 26 = .ok (.invokevirtual 276, 3)) lk_Md_276 (m_heldOn (s_up σ 0 22 (nI 0)) f b hI hV h (by omega)) rfl rfl rfl rfl (Nat.le_of_ble_eq_true rfl) (Nat.le_of_ble_eq_true rfl) (fun r26 s26 h26 => ?_)
        obtain ⟨rfl, rfl⟩ := h26
        refine g_top (w := nI 2) (by show nI (hd σ f h) = nI 2; rw [ehd]) ?_
        refine g_iconst (v := nI 1) (by decide +kernel : decode prog_10_method_105_code 29 = .ok (.iconst 1, 1)) (by decide) ?_
        refine g_icmp_eqN (tgt := 35) (by decide +kernel : decode prog_10_method_105_code 30 = .ok (.if_icmp .eq 5, 3)) (by decide) (by decide) (by decide) (fun h => False.elim (by revert h; decide)) (fun _ => ?_)
        refine g_iconst (v := nI 0) (by decide +kernel : decode prog_10_method_105_code 33 = .ok (.iconst 0, 1)) (by decide) ?_
        exact g_iret hR (by decide +kernel : decode prog_10_method_105_code 34 = .ok (.ireturn, 1)) rfl (act_no (σ := σ) (f := f) (by unfold actQ; simp only [rg_of ha6 hb6, rg_of ha18 hb18]; rw [if_neg (by rw [ehd]; decide)]))
    · refine g_if_eqN (tgt := 33) (by decide +kernel : decode prog_10_method_105_code 21 = .ok (.ifCond .eq 12, 3)) (by decide) (by decide) (fun _ => ?_) (fun h => False.elim (by revert h; decide))
      refine g_iconst (v := nI 0) (by decide +kernel : decode prog_10_method_105_code 33 = .ok (.iconst 0, 1)) (by decide) ?_
      exact g_iret hR (by decide +kernel : decode prog_10_method_105_code 34 = .ok (.ireturn, 1)) rfl (act_no (σ := σ) (f := f) (by unfold actQ; simp only [rg_of ha6 hb6, rg_none n18]))
  · refine g_if_eqN (tgt := 33) (by decide +kernel : decode prog_10_method_105_code 9 = .ok (.ifCond .eq 24, 3)) (by decide) (by decide) (fun _ => ?_) (fun h => False.elim (by revert h; decide))
    refine g_iconst (v := nI 0) (by decide +kernel : decode prog_10_method_105_code 33 = .ok (.iconst 0, 1)) (by decide) ?_
    exact g_iret hR (by decide +kernel : decode prog_10_method_105_code 34 = .ok (.ireturn, 1)) rfl (act_no (σ := σ) (f := f) (by unfold actQ; simp only [rg_none n6]))
