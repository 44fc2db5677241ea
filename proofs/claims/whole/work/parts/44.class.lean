/-! THE PROGRAM: acts, the tape fed -/
theorem bS_self {σ : Store} {B : Row} {r p : Nat} (h1 : σ 1 = B) (h2 : σ 0 1 = nI r) (h5 : σ 0 5 = nI p) : σ = bS σ B r p := by
  funext k
  unfold bS s_up s_row
  by_cases h : k = 0
  · subst h
    simp only [↓reduceIte]
    funext j
    unfold upd
    by_cases e5 : j = 5
    · subst e5; simpa using h5
    · by_cases e1 : j = 1
      · subst e1; simpa using h2
      · simp [e5, e1]
  · by_cases h3 : k = 1
    · subst h3; simpa using h1
    · simp [h, h3]
abbrev ixA : List Nat := [41, 42]
def RunP (σ : Store) (v : Int32) (l : List Int32) (p : Nat) : Int32 → Store → Prop := fun r σ' => r = v ∧ σ' 41 1 = nI l.length ∧ (∀ i, i < l.length → σ' 42 i = l.getD i 0) ∧ σ' 41 5 = nI p ∧ ∀ c, c ≠ 41 → c ≠ 42 → σ' c = σ c
theorem run_emb {D : Nat} {σ : Store} {as as' : List Value} {v : Int32} {l : List Int32} {p : Nat} (e1 : σ 41 1 = nI 0) (e5 : σ 41 5 = nI 0) (h : Ct ΛA mt_Ac_run D as (bS (sub ixA σ) (σ 42) 0 0) (PF v (bS (sub ixA σ) (wl (σ 42) 0 l) (0 + l.length) p))) (ha : as.map (re ixA) = as') : Ct ΛC mt_Ac_run D as' σ (PI (RunP σ v l p)) := by
  have hs : sub ixA σ = bS (sub ixA σ) (σ 42) 0 0 := bS_self rfl e1 e5
  have h' : Ct ΛA mt_Ac_run D as (sub ixA σ) (PF v (bS (sub ixA σ) (wl (σ 42) 0 l) (0 + l.length) p)) := cast (congrArg (fun s => Ct ΛA mt_Ac_run D as s (PF v (bS (sub ixA σ) (wl (σ 42) 0 l) (0 + l.length) p))) hs.symm) h
  refine (Ct.embI ixA h' (by decide +kernel) ha).post ?_
  rintro w σ' ⟨r, h1, ρ, ⟨h2, h3⟩, h4⟩
  subst h3; subst h4
  refine ⟨r, h1, h2, ?_, fun i hi => ?_, rfl, fun c c1 c2 => ?_⟩
  · show nI (0 + l.length) = nI l.length
    rw [Nat.zero_add]
  · show wl (σ 42) 0 l i = l.getD i 0
    have := wl_get (σ 42) l 0 i hi
    rw [Nat.zero_add] at this
    exact this
  · simp [over, pos, Ne.symm c1, Ne.symm c2]
def PerP (σ : Store) (w k o a : Nat) (z : Int32) : Int32 → Store → Prop := fun r σ' => r = (if aP w k o a = 0 then actW w k o a z else -15) ∧ σ' 41 1 = nI (actC w k o a).length ∧ (∀ i, i < (actC w k o a).length → σ' 42 i = (actC w k o a).getD i 0) ∧ ∀ c, c ≠ 41 → c ≠ 42 → σ' c = σ c
theorem per_end {σ σ1 σ' : Store} {w k o a p : Nat} {l : List Int32} {z r : Int32} (hA : actC w k o a = l) (hp : aP w k o a = p) (hv : r = if p = 0 then actW w k o a z else -15) (t1 : σ' 41 1 = nI l.length) (t2 : ∀ i, i < l.length → σ' 42 i = l.getD i 0) (tc : ∀ c, c ≠ 41 → c ≠ 42 → σ' c = σ1 c) (e : ∀ c, c ≠ 41 → σ1 c = σ c) : PerP σ w k o a z r σ' := by
  subst hA; subst hp
  exact ⟨hv, t1, t2, fun c c1 c2 => (tc c c1 c2).trans (e c c1)⟩
theorem aP3 {k n a : Nat} (h : k ≠ 2) (h2 : k ≠ 4) : aP 3 k n a = 0 := by
  unfold aP
  split
  · rw [if_neg (by omega)]
  · rfl
set_option maxRecDepth 20000 in
theorem c_perform {σ τ : Store} {f : Row} (h : RX σ τ f) (e1 : σ 41 1 = nI 0) {o w k a : Nat} (ho : o < nn f) (hw : w ≤ 3) (ek : f (19 + 6 * o + 0) = nI k) (ea : f (19 + 6 * o + 2) = nI a) (hk5 : k ≤ 5) (ha9 : a ≤ 9) (z : Int32) : Ct ΛC mt_Ac_perform 8 [.ref 41, .ref 1, .int (nI o), .int (nI w), .int z] σ (PI (PerP σ w k o a z)) := by
  refine Ct.of (by decide) (Nat.le_of_ble_eq_true rfl) (fun X hR => ?_)
  show G (ΛC, mt_Ac_perform, 8) X σ [some (.ref 41), some (.ref 1), some (.int (nI o)), some (.int (nI w)), some (.int z), none] [] 0
  have hn8 := h.n8
  refine g_aload_n (by decide +kernel : decode prog_2_method_2_code 0 = .ok (.aload_n 0, 1)) rfl ?_
  refine g_iconst (v := nI 0) (by decide +kernel : decode prog_2_method_2_code 1 = .ok (.iconst 0, 1)) (by decide) ?_
  refine g_putZ (by decide +kernel : decode prog_2_method_2_code 2 = .ok (.putfield 15, 3)) fl_Ac_15 rfl rfl (by decide) ?_
  refine g_aload_n (by decide +kernel : decode prog_2_method_2_code 5 = .ok (.aload_n 0, 1)) rfl ?_
  refine g_aload_n (by decide +kernel : decode prog_2_method_2_code 6 = .ok (.aload_n 1, 1)) rfl ?_
  refine g_getR (by decide +kernel : decode prog_2_method_2_code 7 = .ok (.getfield 19, 3)) fl_Ac_19 rfl rfl ?_
  refine g_iload_n (by decide +kernel : decode prog_2_method_2_code 10 = .ok (.iload_n 2, 1)) rfl ?_
  refine g_iaload (a := o) (by decide +kernel : decode prog_2_method_2_code 11 = .ok (.iaload, 1)) rfl rfl (by omega) (by decide) ?_
  refine g_top (w := nI k) ((h.n.p0 ho).trans ek) ?_
  refine g_putI (by decide +kernel : decode prog_2_method_2_code 12 = .ok (.putfield 24, 3)) fl_Ac_24 rfl rfl ?_
  refine g_aload_n (by decide +kernel : decode prog_2_method_2_code 15 = .ok (.aload_n 0, 1)) rfl ?_
  refine g_iload_n (by decide +kernel : decode prog_2_method_2_code 16 = .ok (.iload_n 2, 1)) rfl ?_
  refine g_putI (by decide +kernel : decode prog_2_method_2_code 17 = .ok (.putfield 28, 3)) fl_Ac_28 rfl rfl ?_
  refine g_aload_n (by decide +kernel : decode prog_2_method_2_code 20 = .ok (.aload_n 0, 1)) rfl ?_
  refine g_aload_n (by decide +kernel : decode prog_2_method_2_code 21 = .ok (.aload_n 1, 1)) rfl ?_
  refine g_getR (by decide +kernel : decode prog_2_method_2_code 22 = .ok (.getfield 31, 3)) fl_Ac_31 rfl rfl ?_
  refine g_iload_n (by decide +kernel : decode prog_2_method_2_code 25 = .ok (.iload_n 2, 1)) rfl ?_
  refine g_iaload (a := o) (by decide +kernel : decode prog_2_method_2_code 26 = .ok (.iaload, 1)) rfl rfl (by omega) (by decide) ?_
  refine g_top (w := nI a) ((h.n.p2 ho).trans ea) ?_
  refine g_putI (by decide +kernel : decode prog_2_method_2_code 27 = .ok (.putfield 34, 3)) fl_Ac_34 rfl rfl ?_
  refine g_aload_n (by decide +kernel : decode prog_2_method_2_code 30 = .ok (.aload_n 0, 1)) rfl ?_
  refine g_aload_n (by decide +kernel : decode prog_2_method_2_code 31 = .ok (.aload_n 0, 1)) rfl ?_
  refine g_getI (by decide +kernel : decode prog_2_method_2_code 32 = .ok (.getfield 24, 3)) fl_Ac_24.get rfl rfl ?_
  refine g_top (w := nI k) (rfl) ?_
  refine g_iload_n (by decide +kernel : decode prog_2_method_2_code 35 = .ok (.iload_n 3, 1)) rfl ?_
  refine g_iload (by decide +kernel : decode prog_2_method_2_code 36 = .ok (.iload 4, 2)) rfl ?_
  refine g_iconst (v := nI 0) (by decide +kernel : decode prog_2_method_2_code 38 = .ok (.iconst 0, 1)) (by decide) ?_
  rcases (show k = 0 ∨ k = 1 ∨ k = 2 ∨ k = 3 ∨ k = 4 ∨ k = 5 by omega) with rfl | rfl | rfl | rfl | rfl | rfl
  · rcases (show w = 0 ∨ w = 1 ∨ w = 2 ∨ w = 3 by omega) with rfl | rfl | rfl | rfl
    · refine g_callVI [.int (nI 0), .int (nI 0), .int z, .int (nI 0)] (by decide +kernel : decode prog_2_method_2_code 39 = .ok (.invokevirtual 37, 3)) lk_Ac_37 (run_emb (l := [nI 10]) (p := 0) e1 rfl (r_0_0_0 _ _ 0 z rfl rfl rfl (d := 0) (by decide) (by decide)) rfl) rfl rfl rfl rfl (Nat.le_of_ble_eq_true rfl) (Nat.le_of_ble_eq_true rfl) (fun r39 s39 h39 => ?_)
      obtain ⟨rfl, t1, t2, t5, tc⟩ := h39
      refine g_istore (L' := [some (.ref 41), some (.ref 1), some (.int (nI o)), some (.int (nI 0)), some (.int z), some (.int (z - nI (o * 2)))]) (by decide +kernel : decode prog_2_method_2_code 42 = .ok (.istore 5, 2)) (Nat.le_of_ble_eq_true rfl) rfl ?_
      refine g_aload_n (by decide +kernel : decode prog_2_method_2_code 44 = .ok (.aload_n 0, 1)) rfl ?_
      refine g_getI (by decide +kernel : decode prog_2_method_2_code 45 = .ok (.getfield 15, 3)) fl_Ac_15.get rfl rfl ?_
      refine g_top (w := nI 0) (t5) ?_
      refine g_if_eqN (tgt := 56) (by decide +kernel : decode prog_2_method_2_code 48 = .ok (.ifCond .eq 8, 3)) (by decide) (by decide) (fun _ => ?_) (fun h => False.elim (by revert h; decide))
      refine g_iload (by decide +kernel : decode prog_2_method_2_code 56 = .ok (.iload 5, 2)) rfl ?_
      exact g_iret hR (by decide +kernel : decode prog_2_method_2_code 58 = .ok (.ireturn, 1)) rfl ⟨_, rfl, per_end rfl (aP_01 (by decide)) rfl t1 t2 tc (fun c c1 => by rw [s_up_n _ _ _ c1, s_up_n _ _ _ c1, s_up_n _ _ _ c1, s_up_n _ _ _ c1])⟩
    · refine g_callVI [.int (nI 0), .int (nI 1), .int z, .int (nI 0)] (by decide +kernel : decode prog_2_method_2_code 39 = .ok (.invokevirtual 37, 3)) lk_Ac_37 (run_emb (l := [nI 11, nI 10]) (p := 0) e1 rfl (r_0_0_1 _ _ 0 z rfl rfl rfl (d := 0) (by decide) (by decide)) rfl) rfl rfl rfl rfl (Nat.le_of_ble_eq_true rfl) (Nat.le_of_ble_eq_true rfl) (fun r39 s39 h39 => ?_)
      obtain ⟨rfl, t1, t2, t5, tc⟩ := h39
      refine g_istore (L' := [some (.ref 41), some (.ref 1), some (.int (nI o)), some (.int (nI 1)), some (.int z), some (.int ((z - nI (o * 2)) * nI 2 - nI a))]) (by decide +kernel : decode prog_2_method_2_code 42 = .ok (.istore 5, 2)) (Nat.le_of_ble_eq_true rfl) rfl ?_
      refine g_aload_n (by decide +kernel : decode prog_2_method_2_code 44 = .ok (.aload_n 0, 1)) rfl ?_
      refine g_getI (by decide +kernel : decode prog_2_method_2_code 45 = .ok (.getfield 15, 3)) fl_Ac_15.get rfl rfl ?_
      refine g_top (w := nI 0) (t5) ?_
      refine g_if_eqN (tgt := 56) (by decide +kernel : decode prog_2_method_2_code 48 = .ok (.ifCond .eq 8, 3)) (by decide) (by decide) (fun _ => ?_) (fun h => False.elim (by revert h; decide))
      refine g_iload (by decide +kernel : decode prog_2_method_2_code 56 = .ok (.iload 5, 2)) rfl ?_
      exact g_iret hR (by decide +kernel : decode prog_2_method_2_code 58 = .ok (.ireturn, 1)) rfl ⟨_, rfl, per_end rfl (aP_01 (by decide)) rfl t1 t2 tc (fun c c1 => by rw [s_up_n _ _ _ c1, s_up_n _ _ _ c1, s_up_n _ _ _ c1, s_up_n _ _ _ c1])⟩
    · by_cases hna : o = a
      · refine g_callVI [.int (nI 0), .int (nI 2), .int z, .int (nI 0)] (by decide +kernel : decode prog_2_method_2_code 39 = .ok (.invokevirtual 37, 3)) lk_Ac_37 (run_emb (l := [nI 12]) (p := 1) e1 rfl (r_0_0_2e _ _ 0 z rfl rfl rfl (d := 0) (by decide) (by decide) (by omega) ha9 hna) rfl) rfl rfl rfl rfl (Nat.le_of_ble_eq_true rfl) (Nat.le_of_ble_eq_true rfl) (fun r39 s39 h39 => ?_)
        obtain ⟨rfl, t1, t2, t5, tc⟩ := h39
        refine g_istore (L' := [some (.ref 41), some (.ref 1), some (.int (nI o)), some (.int (nI 2)), some (.int z), some (.int (pP o a z))]) (by decide +kernel : decode prog_2_method_2_code 42 = .ok (.istore 5, 2)) (Nat.le_of_ble_eq_true rfl) rfl ?_
        refine g_aload_n (by decide +kernel : decode prog_2_method_2_code 44 = .ok (.aload_n 0, 1)) rfl ?_
        refine g_getI (by decide +kernel : decode prog_2_method_2_code 45 = .ok (.getfield 15, 3)) fl_Ac_15.get rfl rfl ?_
        refine g_top (w := nI 1) (t5) ?_
        refine g_if_eqN (tgt := 56) (by decide +kernel : decode prog_2_method_2_code 48 = .ok (.ifCond .eq 8, 3)) (by decide) (by decide) (fun h => False.elim (by revert h; decide)) (fun _ => ?_)
        refine g_bipush (v := (-15)) (by decide +kernel : decode prog_2_method_2_code 51 = .ok (.bipush (-15), 2)) (by decide) ?_
        refine g_goto (tgt := 58) (by decide +kernel : decode prog_2_method_2_code 53 = .ok (.goto 5, 3)) (by decide) ?_
        exact g_iret hR (by decide +kernel : decode prog_2_method_2_code 58 = .ok (.ireturn, 1)) rfl ⟨_, rfl, per_end rfl (by unfold aP; rw [if_pos hna]; try rfl) rfl t1 t2 tc (fun c c1 => by rw [s_up_n _ _ _ c1, s_up_n _ _ _ c1, s_up_n _ _ _ c1, s_up_n _ _ _ c1])⟩
      · refine g_callVI [.int (nI 0), .int (nI 2), .int z, .int (nI 0)] (by decide +kernel : decode prog_2_method_2_code 39 = .ok (.invokevirtual 37, 3)) lk_Ac_37 (run_emb (l := [nI 12]) (p := 0) e1 rfl (r_0_0_2d _ _ 0 z rfl rfl rfl (d := 0) (by decide) (by decide) (by omega) ha9 hna) rfl) rfl rfl rfl rfl (Nat.le_of_ble_eq_true rfl) (Nat.le_of_ble_eq_true rfl) (fun r39 s39 h39 => ?_)
        obtain ⟨rfl, t1, t2, t5, tc⟩ := h39
        refine g_istore (L' := [some (.ref 41), some (.ref 1), some (.int (nI o)), some (.int (nI 2)), some (.int z), some (.int (pP o a z))]) (by decide +kernel : decode prog_2_method_2_code 42 = .ok (.istore 5, 2)) (Nat.le_of_ble_eq_true rfl) rfl ?_
        refine g_aload_n (by decide +kernel : decode prog_2_method_2_code 44 = .ok (.aload_n 0, 1)) rfl ?_
        refine g_getI (by decide +kernel : decode prog_2_method_2_code 45 = .ok (.getfield 15, 3)) fl_Ac_15.get rfl rfl ?_
        refine g_top (w := nI 0) (t5) ?_
        refine g_if_eqN (tgt := 56) (by decide +kernel : decode prog_2_method_2_code 48 = .ok (.ifCond .eq 8, 3)) (by decide) (by decide) (fun _ => ?_) (fun h => False.elim (by revert h; decide))
        refine g_iload (by decide +kernel : decode prog_2_method_2_code 56 = .ok (.iload 5, 2)) rfl ?_
        exact g_iret hR (by decide +kernel : decode prog_2_method_2_code 58 = .ok (.ireturn, 1)) rfl ⟨_, rfl, per_end rfl (by unfold aP; rw [if_neg hna]) rfl t1 t2 tc (fun c c1 => by rw [s_up_n _ _ _ c1, s_up_n _ _ _ c1, s_up_n _ _ _ c1, s_up_n _ _ _ c1])⟩
    · refine g_callVI [.int (nI 0), .int (nI 3), .int z, .int (nI 0)] (by decide +kernel : decode prog_2_method_2_code 39 = .ok (.invokevirtual 37, 3)) lk_Ac_37 (run_emb (l := [nI 13, nI 11, nI 10]) (p := 0) e1 rfl (r_0_0_3 _ _ 0 z rfl rfl rfl (d := 0) (by decide) (by decide)) rfl) rfl rfl rfl rfl (Nat.le_of_ble_eq_true rfl) (Nat.le_of_ble_eq_true rfl) (fun r39 s39 h39 => ?_)
      obtain ⟨rfl, t1, t2, t5, tc⟩ := h39
      refine g_istore (L' := [some (.ref 41), some (.ref 1), some (.int (nI o)), some (.int (nI 3)), some (.int z), some (.int (((z - nI (o * 2)) * nI 2 - nI a) ^^^ nI 12))]) (by decide +kernel : decode prog_2_method_2_code 42 = .ok (.istore 5, 2)) (Nat.le_of_ble_eq_true rfl) rfl ?_
      refine g_aload_n (by decide +kernel : decode prog_2_method_2_code 44 = .ok (.aload_n 0, 1)) rfl ?_
      refine g_getI (by decide +kernel : decode prog_2_method_2_code 45 = .ok (.getfield 15, 3)) fl_Ac_15.get rfl rfl ?_
      refine g_top (w := nI 0) (t5) ?_
      refine g_if_eqN (tgt := 56) (by decide +kernel : decode prog_2_method_2_code 48 = .ok (.ifCond .eq 8, 3)) (by decide) (by decide) (fun _ => ?_) (fun h => False.elim (by revert h; decide))
      refine g_iload (by decide +kernel : decode prog_2_method_2_code 56 = .ok (.iload 5, 2)) rfl ?_
      exact g_iret hR (by decide +kernel : decode prog_2_method_2_code 58 = .ok (.ireturn, 1)) rfl ⟨_, rfl, per_end rfl (aP3 (by decide) (by decide)) rfl t1 t2 tc (fun c c1 => by rw [s_up_n _ _ _ c1, s_up_n _ _ _ c1, s_up_n _ _ _ c1, s_up_n _ _ _ c1])⟩
  · rcases (show w = 0 ∨ w = 1 ∨ w = 2 ∨ w = 3 by omega) with rfl | rfl | rfl | rfl
    · refine g_callVI [.int (nI 1), .int (nI 0), .int z, .int (nI 0)] (by decide +kernel : decode prog_2_method_2_code 39 = .ok (.invokevirtual 37, 3)) lk_Ac_37 (run_emb (l := [nI 10]) (p := 0) e1 rfl (r_1_1_0 _ _ 0 z rfl rfl rfl (d := 0) (by decide) (by decide)) rfl) rfl rfl rfl rfl (Nat.le_of_ble_eq_true rfl) (Nat.le_of_ble_eq_true rfl) (fun r39 s39 h39 => ?_)
      obtain ⟨rfl, t1, t2, t5, tc⟩ := h39
      refine g_istore (L' := [some (.ref 41), some (.ref 1), some (.int (nI o)), some (.int (nI 0)), some (.int z), some (.int (z - nI (o * 2)))]) (by decide +kernel : decode prog_2_method_2_code 42 = .ok (.istore 5, 2)) (Nat.le_of_ble_eq_true rfl) rfl ?_
      refine g_aload_n (by decide +kernel : decode prog_2_method_2_code 44 = .ok (.aload_n 0, 1)) rfl ?_
      refine g_getI (by decide +kernel : decode prog_2_method_2_code 45 = .ok (.getfield 15, 3)) fl_Ac_15.get rfl rfl ?_
      refine g_top (w := nI 0) (t5) ?_
      refine g_if_eqN (tgt := 56) (by decide +kernel : decode prog_2_method_2_code 48 = .ok (.ifCond .eq 8, 3)) (by decide) (by decide) (fun _ => ?_) (fun h => False.elim (by revert h; decide))
      refine g_iload (by decide +kernel : decode prog_2_method_2_code 56 = .ok (.iload 5, 2)) rfl ?_
      exact g_iret hR (by decide +kernel : decode prog_2_method_2_code 58 = .ok (.ireturn, 1)) rfl ⟨_, rfl, per_end rfl (aP_01 (by decide)) rfl t1 t2 tc (fun c c1 => by rw [s_up_n _ _ _ c1, s_up_n _ _ _ c1, s_up_n _ _ _ c1, s_up_n _ _ _ c1])⟩
    · refine g_callVI [.int (nI 1), .int (nI 1), .int z, .int (nI 0)] (by decide +kernel : decode prog_2_method_2_code 39 = .ok (.invokevirtual 37, 3)) lk_Ac_37 (run_emb (l := [nI 20, nI 11, nI 10]) (p := 0) e1 rfl (r_1_1_1 _ _ 0 z rfl rfl rfl (d := 0) (by decide) (by decide)) rfl) rfl rfl rfl rfl (Nat.le_of_ble_eq_true rfl) (Nat.le_of_ble_eq_true rfl) (fun r39 s39 h39 => ?_)
      obtain ⟨rfl, t1, t2, t5, tc⟩ := h39
      refine g_istore (L' := [some (.ref 41), some (.ref 1), some (.int (nI o)), some (.int (nI 1)), some (.int z), some (.int (((z - nI (o * 2)) * nI 2 - nI a) + nI 5))]) (by decide +kernel : decode prog_2_method_2_code 42 = .ok (.istore 5, 2)) (Nat.le_of_ble_eq_true rfl) rfl ?_
      refine g_aload_n (by decide +kernel : decode prog_2_method_2_code 44 = .ok (.aload_n 0, 1)) rfl ?_
      refine g_getI (by decide +kernel : decode prog_2_method_2_code 45 = .ok (.getfield 15, 3)) fl_Ac_15.get rfl rfl ?_
      refine g_top (w := nI 0) (t5) ?_
      refine g_if_eqN (tgt := 56) (by decide +kernel : decode prog_2_method_2_code 48 = .ok (.ifCond .eq 8, 3)) (by decide) (by decide) (fun _ => ?_) (fun h => False.elim (by revert h; decide))
      refine g_iload (by decide +kernel : decode prog_2_method_2_code 56 = .ok (.iload 5, 2)) rfl ?_
      exact g_iret hR (by decide +kernel : decode prog_2_method_2_code 58 = .ok (.ireturn, 1)) rfl ⟨_, rfl, per_end rfl (aP_01 (by decide)) rfl t1 t2 tc (fun c c1 => by rw [s_up_n _ _ _ c1, s_up_n _ _ _ c1, s_up_n _ _ _ c1, s_up_n _ _ _ c1])⟩
    · by_cases hna : o = a
      · refine g_callVI [.int (nI 1), .int (nI 2), .int z, .int (nI 0)] (by decide +kernel : decode prog_2_method_2_code 39 = .ok (.invokevirtual 37, 3)) lk_Ac_37 (run_emb (l := [nI 12]) (p := 1) e1 rfl (r_1_1_2e _ _ 0 z rfl rfl rfl (d := 0) (by decide) (by decide) (by omega) ha9 hna) rfl) rfl rfl rfl rfl (Nat.le_of_ble_eq_true rfl) (Nat.le_of_ble_eq_true rfl) (fun r39 s39 h39 => ?_)
        obtain ⟨rfl, t1, t2, t5, tc⟩ := h39
        refine g_istore (L' := [some (.ref 41), some (.ref 1), some (.int (nI o)), some (.int (nI 2)), some (.int z), some (.int (pP o a z))]) (by decide +kernel : decode prog_2_method_2_code 42 = .ok (.istore 5, 2)) (Nat.le_of_ble_eq_true rfl) rfl ?_
        refine g_aload_n (by decide +kernel : decode prog_2_method_2_code 44 = .ok (.aload_n 0, 1)) rfl ?_
        refine g_getI (by decide +kernel : decode prog_2_method_2_code 45 = .ok (.getfield 15, 3)) fl_Ac_15.get rfl rfl ?_
        refine g_top (w := nI 1) (t5) ?_
        refine g_if_eqN (tgt := 56) (by decide +kernel : decode prog_2_method_2_code 48 = .ok (.ifCond .eq 8, 3)) (by decide) (by decide) (fun h => False.elim (by revert h; decide)) (fun _ => ?_)
        refine g_bipush (v := (-15)) (by decide +kernel : decode prog_2_method_2_code 51 = .ok (.bipush (-15), 2)) (by decide) ?_
        refine g_goto (tgt := 58) (by decide +kernel : decode prog_2_method_2_code 53 = .ok (.goto 5, 3)) (by decide) ?_
        exact g_iret hR (by decide +kernel : decode prog_2_method_2_code 58 = .ok (.ireturn, 1)) rfl ⟨_, rfl, per_end rfl (by unfold aP; rw [if_pos hna]; try rfl) rfl t1 t2 tc (fun c c1 => by rw [s_up_n _ _ _ c1, s_up_n _ _ _ c1, s_up_n _ _ _ c1, s_up_n _ _ _ c1])⟩
      · refine g_callVI [.int (nI 1), .int (nI 2), .int z, .int (nI 0)] (by decide +kernel : decode prog_2_method_2_code 39 = .ok (.invokevirtual 37, 3)) lk_Ac_37 (run_emb (l := [nI 12]) (p := 0) e1 rfl (r_1_1_2d _ _ 0 z rfl rfl rfl (d := 0) (by decide) (by decide) (by omega) ha9 hna) rfl) rfl rfl rfl rfl (Nat.le_of_ble_eq_true rfl) (Nat.le_of_ble_eq_true rfl) (fun r39 s39 h39 => ?_)
        obtain ⟨rfl, t1, t2, t5, tc⟩ := h39
        refine g_istore (L' := [some (.ref 41), some (.ref 1), some (.int (nI o)), some (.int (nI 2)), some (.int z), some (.int (pP o a z))]) (by decide +kernel : decode prog_2_method_2_code 42 = .ok (.istore 5, 2)) (Nat.le_of_ble_eq_true rfl) rfl ?_
        refine g_aload_n (by decide +kernel : decode prog_2_method_2_code 44 = .ok (.aload_n 0, 1)) rfl ?_
        refine g_getI (by decide +kernel : decode prog_2_method_2_code 45 = .ok (.getfield 15, 3)) fl_Ac_15.get rfl rfl ?_
        refine g_top (w := nI 0) (t5) ?_
        refine g_if_eqN (tgt := 56) (by decide +kernel : decode prog_2_method_2_code 48 = .ok (.ifCond .eq 8, 3)) (by decide) (by decide) (fun _ => ?_) (fun h => False.elim (by revert h; decide))
        refine g_iload (by decide +kernel : decode prog_2_method_2_code 56 = .ok (.iload 5, 2)) rfl ?_
        exact g_iret hR (by decide +kernel : decode prog_2_method_2_code 58 = .ok (.ireturn, 1)) rfl ⟨_, rfl, per_end rfl (by unfold aP; rw [if_neg hna]) rfl t1 t2 tc (fun c c1 => by rw [s_up_n _ _ _ c1, s_up_n _ _ _ c1, s_up_n _ _ _ c1, s_up_n _ _ _ c1])⟩
    · refine g_callVI [.int (nI 1), .int (nI 3), .int z, .int (nI 0)] (by decide +kernel : decode prog_2_method_2_code 39 = .ok (.invokevirtual 37, 3)) lk_Ac_37 (run_emb (l := [nI 13, nI 20, nI 11, nI 10]) (p := 0) e1 rfl (r_1_1_3 _ _ 0 z rfl rfl rfl (d := 0) (by decide) (by decide)) rfl) rfl rfl rfl rfl (Nat.le_of_ble_eq_true rfl) (Nat.le_of_ble_eq_true rfl) (fun r39 s39 h39 => ?_)
      obtain ⟨rfl, t1, t2, t5, tc⟩ := h39
      refine g_istore (L' := [some (.ref 41), some (.ref 1), some (.int (nI o)), some (.int (nI 3)), some (.int z), some (.int ((((z - nI (o * 2)) * nI 2 - nI a) + nI 5) ^^^ nI 12))]) (by decide +kernel : decode prog_2_method_2_code 42 = .ok (.istore 5, 2)) (Nat.le_of_ble_eq_true rfl) rfl ?_
      refine g_aload_n (by decide +kernel : decode prog_2_method_2_code 44 = .ok (.aload_n 0, 1)) rfl ?_
      refine g_getI (by decide +kernel : decode prog_2_method_2_code 45 = .ok (.getfield 15, 3)) fl_Ac_15.get rfl rfl ?_
      refine g_top (w := nI 0) (t5) ?_
      refine g_if_eqN (tgt := 56) (by decide +kernel : decode prog_2_method_2_code 48 = .ok (.ifCond .eq 8, 3)) (by decide) (by decide) (fun _ => ?_) (fun h => False.elim (by revert h; decide))
      refine g_iload (by decide +kernel : decode prog_2_method_2_code 56 = .ok (.iload 5, 2)) rfl ?_
      exact g_iret hR (by decide +kernel : decode prog_2_method_2_code 58 = .ok (.ireturn, 1)) rfl ⟨_, rfl, per_end rfl (aP3 (by decide) (by decide)) rfl t1 t2 tc (fun c c1 => by rw [s_up_n _ _ _ c1, s_up_n _ _ _ c1, s_up_n _ _ _ c1, s_up_n _ _ _ c1])⟩
  · rcases (show w = 0 ∨ w = 1 ∨ w = 2 ∨ w = 3 by omega) with rfl | rfl | rfl | rfl
    · refine g_callVI [.int (nI 2), .int (nI 0), .int z, .int (nI 0)] (by decide +kernel : decode prog_2_method_2_code 39 = .ok (.invokevirtual 37, 3)) lk_Ac_37 (run_emb (l := [nI 30, nI 10]) (p := 0) e1 rfl (r_2_2_0 _ _ 0 z rfl rfl rfl (d := 0) (by decide) (by decide)) rfl) rfl rfl rfl rfl (Nat.le_of_ble_eq_true rfl) (Nat.le_of_ble_eq_true rfl) (fun r39 s39 h39 => ?_)
      obtain ⟨rfl, t1, t2, t5, tc⟩ := h39
      refine g_istore (L' := [some (.ref 41), some (.ref 1), some (.int (nI o)), some (.int (nI 0)), some (.int z), some (.int ((z - nI (o * 2)) ^^^ nI 3))]) (by decide +kernel : decode prog_2_method_2_code 42 = .ok (.istore 5, 2)) (Nat.le_of_ble_eq_true rfl) rfl ?_
      refine g_aload_n (by decide +kernel : decode prog_2_method_2_code 44 = .ok (.aload_n 0, 1)) rfl ?_
      refine g_getI (by decide +kernel : decode prog_2_method_2_code 45 = .ok (.getfield 15, 3)) fl_Ac_15.get rfl rfl ?_
      refine g_top (w := nI 0) (t5) ?_
      refine g_if_eqN (tgt := 56) (by decide +kernel : decode prog_2_method_2_code 48 = .ok (.ifCond .eq 8, 3)) (by decide) (by decide) (fun _ => ?_) (fun h => False.elim (by revert h; decide))
      refine g_iload (by decide +kernel : decode prog_2_method_2_code 56 = .ok (.iload 5, 2)) rfl ?_
      exact g_iret hR (by decide +kernel : decode prog_2_method_2_code 58 = .ok (.ireturn, 1)) rfl ⟨_, rfl, per_end rfl (aP_01 (by decide)) rfl t1 t2 tc (fun c c1 => by rw [s_up_n _ _ _ c1, s_up_n _ _ _ c1, s_up_n _ _ _ c1, s_up_n _ _ _ c1])⟩
    · refine g_callVI [.int (nI 2), .int (nI 1), .int z, .int (nI 0)] (by decide +kernel : decode prog_2_method_2_code 39 = .ok (.invokevirtual 37, 3)) lk_Ac_37 (run_emb (l := [nI 11, nI 30, nI 10]) (p := 0) e1 rfl (r_2_2_1 _ _ 0 z rfl rfl rfl (d := 0) (by decide) (by decide)) rfl) rfl rfl rfl rfl (Nat.le_of_ble_eq_true rfl) (Nat.le_of_ble_eq_true rfl) (fun r39 s39 h39 => ?_)
      obtain ⟨rfl, t1, t2, t5, tc⟩ := h39
      refine g_istore (L' := [some (.ref 41), some (.ref 1), some (.int (nI o)), some (.int (nI 1)), some (.int z), some (.int (((z - nI (o * 2)) ^^^ nI 3) * nI 2 - nI a))]) (by decide +kernel : decode prog_2_method_2_code 42 = .ok (.istore 5, 2)) (Nat.le_of_ble_eq_true rfl) rfl ?_
      refine g_aload_n (by decide +kernel : decode prog_2_method_2_code 44 = .ok (.aload_n 0, 1)) rfl ?_
      refine g_getI (by decide +kernel : decode prog_2_method_2_code 45 = .ok (.getfield 15, 3)) fl_Ac_15.get rfl rfl ?_
      refine g_top (w := nI 0) (t5) ?_
      refine g_if_eqN (tgt := 56) (by decide +kernel : decode prog_2_method_2_code 48 = .ok (.ifCond .eq 8, 3)) (by decide) (by decide) (fun _ => ?_) (fun h => False.elim (by revert h; decide))
      refine g_iload (by decide +kernel : decode prog_2_method_2_code 56 = .ok (.iload 5, 2)) rfl ?_
      exact g_iret hR (by decide +kernel : decode prog_2_method_2_code 58 = .ok (.ireturn, 1)) rfl ⟨_, rfl, per_end rfl (aP_01 (by decide)) rfl t1 t2 tc (fun c c1 => by rw [s_up_n _ _ _ c1, s_up_n _ _ _ c1, s_up_n _ _ _ c1, s_up_n _ _ _ c1])⟩
    · by_cases hna : o = a
      · refine g_callVI [.int (nI 2), .int (nI 2), .int z, .int (nI 0)] (by decide +kernel : decode prog_2_method_2_code 39 = .ok (.invokevirtual 37, 3)) lk_Ac_37 (run_emb (l := [nI 12]) (p := 1) e1 rfl (r_2_2_2e _ _ 0 z rfl rfl rfl (d := 0) (by decide) (by decide) (by omega) ha9 hna) rfl) rfl rfl rfl rfl (Nat.le_of_ble_eq_true rfl) (Nat.le_of_ble_eq_true rfl) (fun r39 s39 h39 => ?_)
        obtain ⟨rfl, t1, t2, t5, tc⟩ := h39
        refine g_istore (L' := [some (.ref 41), some (.ref 1), some (.int (nI o)), some (.int (nI 2)), some (.int z), some (.int (pP o a z))]) (by decide +kernel : decode prog_2_method_2_code 42 = .ok (.istore 5, 2)) (Nat.le_of_ble_eq_true rfl) rfl ?_
        refine g_aload_n (by decide +kernel : decode prog_2_method_2_code 44 = .ok (.aload_n 0, 1)) rfl ?_
        refine g_getI (by decide +kernel : decode prog_2_method_2_code 45 = .ok (.getfield 15, 3)) fl_Ac_15.get rfl rfl ?_
        refine g_top (w := nI 1) (t5) ?_
        refine g_if_eqN (tgt := 56) (by decide +kernel : decode prog_2_method_2_code 48 = .ok (.ifCond .eq 8, 3)) (by decide) (by decide) (fun h => False.elim (by revert h; decide)) (fun _ => ?_)
        refine g_bipush (v := (-15)) (by decide +kernel : decode prog_2_method_2_code 51 = .ok (.bipush (-15), 2)) (by decide) ?_
        refine g_goto (tgt := 58) (by decide +kernel : decode prog_2_method_2_code 53 = .ok (.goto 5, 3)) (by decide) ?_
        exact g_iret hR (by decide +kernel : decode prog_2_method_2_code 58 = .ok (.ireturn, 1)) rfl ⟨_, rfl, per_end rfl (by unfold aP; rw [if_pos hna]; try rfl) rfl t1 t2 tc (fun c c1 => by rw [s_up_n _ _ _ c1, s_up_n _ _ _ c1, s_up_n _ _ _ c1, s_up_n _ _ _ c1])⟩
      · refine g_callVI [.int (nI 2), .int (nI 2), .int z, .int (nI 0)] (by decide +kernel : decode prog_2_method_2_code 39 = .ok (.invokevirtual 37, 3)) lk_Ac_37 (run_emb (l := [nI 12]) (p := 0) e1 rfl (r_2_2_2d _ _ 0 z rfl rfl rfl (d := 0) (by decide) (by decide) (by omega) ha9 hna) rfl) rfl rfl rfl rfl (Nat.le_of_ble_eq_true rfl) (Nat.le_of_ble_eq_true rfl) (fun r39 s39 h39 => ?_)
        obtain ⟨rfl, t1, t2, t5, tc⟩ := h39
        refine g_istore (L' := [some (.ref 41), some (.ref 1), some (.int (nI o)), some (.int (nI 2)), some (.int z), some (.int (pP o a z))]) (by decide +kernel : decode prog_2_method_2_code 42 = .ok (.istore 5, 2)) (Nat.le_of_ble_eq_true rfl) rfl ?_
        refine g_aload_n (by decide +kernel : decode prog_2_method_2_code 44 = .ok (.aload_n 0, 1)) rfl ?_
        refine g_getI (by decide +kernel : decode prog_2_method_2_code 45 = .ok (.getfield 15, 3)) fl_Ac_15.get rfl rfl ?_
        refine g_top (w := nI 0) (t5) ?_
        refine g_if_eqN (tgt := 56) (by decide +kernel : decode prog_2_method_2_code 48 = .ok (.ifCond .eq 8, 3)) (by decide) (by decide) (fun _ => ?_) (fun h => False.elim (by revert h; decide))
        refine g_iload (by decide +kernel : decode prog_2_method_2_code 56 = .ok (.iload 5, 2)) rfl ?_
        exact g_iret hR (by decide +kernel : decode prog_2_method_2_code 58 = .ok (.ireturn, 1)) rfl ⟨_, rfl, per_end rfl (by unfold aP; rw [if_neg hna]) rfl t1 t2 tc (fun c c1 => by rw [s_up_n _ _ _ c1, s_up_n _ _ _ c1, s_up_n _ _ _ c1, s_up_n _ _ _ c1])⟩
    · by_cases hna : o = a
      · refine g_callVI [.int (nI 2), .int (nI 3), .int z, .int (nI 0)] (by decide +kernel : decode prog_2_method_2_code 39 = .ok (.invokevirtual 37, 3)) lk_Ac_37 (run_emb (l := [nI 31, nI 13, nI 11, nI 30, nI 10, nI 12]) (p := 1) e1 rfl (r_2_2_3e _ _ 0 z rfl rfl rfl (d := 0) (by decide) (by decide) (by omega) ha9 hna) rfl) rfl rfl rfl rfl (Nat.le_of_ble_eq_true rfl) (Nat.le_of_ble_eq_true rfl) (fun r39 s39 h39 => ?_)
        obtain ⟨rfl, t1, t2, t5, tc⟩ := h39
        refine g_istore (L' := [some (.ref 41), some (.ref 1), some (.int (nI o)), some (.int (nI 3)), some (.int z), some (.int (((((z - nI (o * 2)) ^^^ nI 3) * nI 2 - nI a) ^^^ nI 12) - (pP o a (nI o))))]) (by decide +kernel : decode prog_2_method_2_code 42 = .ok (.istore 5, 2)) (Nat.le_of_ble_eq_true rfl) rfl ?_
        refine g_aload_n (by decide +kernel : decode prog_2_method_2_code 44 = .ok (.aload_n 0, 1)) rfl ?_
        refine g_getI (by decide +kernel : decode prog_2_method_2_code 45 = .ok (.getfield 15, 3)) fl_Ac_15.get rfl rfl ?_
        refine g_top (w := nI 1) (t5) ?_
        refine g_if_eqN (tgt := 56) (by decide +kernel : decode prog_2_method_2_code 48 = .ok (.ifCond .eq 8, 3)) (by decide) (by decide) (fun h => False.elim (by revert h; decide)) (fun _ => ?_)
        refine g_bipush (v := (-15)) (by decide +kernel : decode prog_2_method_2_code 51 = .ok (.bipush (-15), 2)) (by decide) ?_
        refine g_goto (tgt := 58) (by decide +kernel : decode prog_2_method_2_code 53 = .ok (.goto 5, 3)) (by decide) ?_
        exact g_iret hR (by decide +kernel : decode prog_2_method_2_code 58 = .ok (.ireturn, 1)) rfl ⟨_, rfl, per_end rfl (by unfold aP; rw [if_pos hna]; try rfl) rfl t1 t2 tc (fun c c1 => by rw [s_up_n _ _ _ c1, s_up_n _ _ _ c1, s_up_n _ _ _ c1, s_up_n _ _ _ c1])⟩
      · refine g_callVI [.int (nI 2), .int (nI 3), .int z, .int (nI 0)] (by decide +kernel : decode prog_2_method_2_code 39 = .ok (.invokevirtual 37, 3)) lk_Ac_37 (run_emb (l := [nI 31, nI 13, nI 11, nI 30, nI 10, nI 12]) (p := 0) e1 rfl (r_2_2_3d _ _ 0 z rfl rfl rfl (d := 0) (by decide) (by decide) (by omega) ha9 hna) rfl) rfl rfl rfl rfl (Nat.le_of_ble_eq_true rfl) (Nat.le_of_ble_eq_true rfl) (fun r39 s39 h39 => ?_)
        obtain ⟨rfl, t1, t2, t5, tc⟩ := h39
        refine g_istore (L' := [some (.ref 41), some (.ref 1), some (.int (nI o)), some (.int (nI 3)), some (.int z), some (.int (((((z - nI (o * 2)) ^^^ nI 3) * nI 2 - nI a) ^^^ nI 12) - (pP o a (nI o))))]) (by decide +kernel : decode prog_2_method_2_code 42 = .ok (.istore 5, 2)) (Nat.le_of_ble_eq_true rfl) rfl ?_
        refine g_aload_n (by decide +kernel : decode prog_2_method_2_code 44 = .ok (.aload_n 0, 1)) rfl ?_
        refine g_getI (by decide +kernel : decode prog_2_method_2_code 45 = .ok (.getfield 15, 3)) fl_Ac_15.get rfl rfl ?_
        refine g_top (w := nI 0) (t5) ?_
        refine g_if_eqN (tgt := 56) (by decide +kernel : decode prog_2_method_2_code 48 = .ok (.ifCond .eq 8, 3)) (by decide) (by decide) (fun _ => ?_) (fun h => False.elim (by revert h; decide))
        refine g_iload (by decide +kernel : decode prog_2_method_2_code 56 = .ok (.iload 5, 2)) rfl ?_
        exact g_iret hR (by decide +kernel : decode prog_2_method_2_code 58 = .ok (.ireturn, 1)) rfl ⟨_, rfl, per_end rfl (by unfold aP; rw [if_neg hna]) rfl t1 t2 tc (fun c c1 => by rw [s_up_n _ _ _ c1, s_up_n _ _ _ c1, s_up_n _ _ _ c1, s_up_n _ _ _ c1])⟩
  · rcases (show w = 0 ∨ w = 1 ∨ w = 2 ∨ w = 3 by omega) with rfl | rfl | rfl | rfl
    · refine g_callVI [.int (nI 3), .int (nI 0), .int z, .int (nI 0)] (by decide +kernel : decode prog_2_method_2_code 39 = .ok (.invokevirtual 37, 3)) lk_Ac_37 (run_emb (l := [nI 51, nI 10]) (p := 0) e1 rfl (r_3_3_0 _ _ 0 z rfl rfl rfl (d := 0) (by decide) (by decide)) rfl) rfl rfl rfl rfl (Nat.le_of_ble_eq_true rfl) (Nat.le_of_ble_eq_true rfl) (fun r39 s39 h39 => ?_)
      obtain ⟨rfl, t1, t2, t5, tc⟩ := h39
      refine g_istore (L' := [some (.ref 41), some (.ref 1), some (.int (nI o)), some (.int (nI 0)), some (.int z), some (.int ((z - nI (o * 2)) - nI o))]) (by decide +kernel : decode prog_2_method_2_code 42 = .ok (.istore 5, 2)) (Nat.le_of_ble_eq_true rfl) rfl ?_
      refine g_aload_n (by decide +kernel : decode prog_2_method_2_code 44 = .ok (.aload_n 0, 1)) rfl ?_
      refine g_getI (by decide +kernel : decode prog_2_method_2_code 45 = .ok (.getfield 15, 3)) fl_Ac_15.get rfl rfl ?_
      refine g_top (w := nI 0) (t5) ?_
      refine g_if_eqN (tgt := 56) (by decide +kernel : decode prog_2_method_2_code 48 = .ok (.ifCond .eq 8, 3)) (by decide) (by decide) (fun _ => ?_) (fun h => False.elim (by revert h; decide))
      refine g_iload (by decide +kernel : decode prog_2_method_2_code 56 = .ok (.iload 5, 2)) rfl ?_
      exact g_iret hR (by decide +kernel : decode prog_2_method_2_code 58 = .ok (.ireturn, 1)) rfl ⟨_, rfl, per_end rfl (aP_01 (by decide)) rfl t1 t2 tc (fun c c1 => by rw [s_up_n _ _ _ c1, s_up_n _ _ _ c1, s_up_n _ _ _ c1, s_up_n _ _ _ c1])⟩
    · refine g_callVI [.int (nI 3), .int (nI 1), .int z, .int (nI 0)] (by decide +kernel : decode prog_2_method_2_code 39 = .ok (.invokevirtual 37, 3)) lk_Ac_37 (run_emb (l := [nI 20, nI 11, nI 51, nI 10]) (p := 0) e1 rfl (r_3_3_1 _ _ 0 z rfl rfl rfl (d := 0) (by decide) (by decide)) rfl) rfl rfl rfl rfl (Nat.le_of_ble_eq_true rfl) (Nat.le_of_ble_eq_true rfl) (fun r39 s39 h39 => ?_)
      obtain ⟨rfl, t1, t2, t5, tc⟩ := h39
      refine g_istore (L' := [some (.ref 41), some (.ref 1), some (.int (nI o)), some (.int (nI 1)), some (.int z), some (.int ((((z - nI (o * 2)) - nI o) * nI 2 - nI a) + nI 5))]) (by decide +kernel : decode prog_2_method_2_code 42 = .ok (.istore 5, 2)) (Nat.le_of_ble_eq_true rfl) rfl ?_
      refine g_aload_n (by decide +kernel : decode prog_2_method_2_code 44 = .ok (.aload_n 0, 1)) rfl ?_
      refine g_getI (by decide +kernel : decode prog_2_method_2_code 45 = .ok (.getfield 15, 3)) fl_Ac_15.get rfl rfl ?_
      refine g_top (w := nI 0) (t5) ?_
      refine g_if_eqN (tgt := 56) (by decide +kernel : decode prog_2_method_2_code 48 = .ok (.ifCond .eq 8, 3)) (by decide) (by decide) (fun _ => ?_) (fun h => False.elim (by revert h; decide))
      refine g_iload (by decide +kernel : decode prog_2_method_2_code 56 = .ok (.iload 5, 2)) rfl ?_
      exact g_iret hR (by decide +kernel : decode prog_2_method_2_code 58 = .ok (.ireturn, 1)) rfl ⟨_, rfl, per_end rfl (aP_01 (by decide)) rfl t1 t2 tc (fun c c1 => by rw [s_up_n _ _ _ c1, s_up_n _ _ _ c1, s_up_n _ _ _ c1, s_up_n _ _ _ c1])⟩
    · by_cases hna : o = a
      · refine g_callVI [.int (nI 3), .int (nI 2), .int z, .int (nI 0)] (by decide +kernel : decode prog_2_method_2_code 39 = .ok (.invokevirtual 37, 3)) lk_Ac_37 (run_emb (l := [nI 50, nI 12]) (p := 1) e1 rfl (r_3_3_2e _ _ 0 z rfl rfl rfl (d := 0) (by decide) (by decide) (by omega) ha9 hna) rfl) rfl rfl rfl rfl (Nat.le_of_ble_eq_true rfl) (Nat.le_of_ble_eq_true rfl) (fun r39 s39 h39 => ?_)
        obtain ⟨rfl, t1, t2, t5, tc⟩ := h39
        refine g_istore (L' := [some (.ref 41), some (.ref 1), some (.int (nI o)), some (.int (nI 2)), some (.int z), some (.int ((pP o a (z + nI a)) * nI 2))]) (by decide +kernel : decode prog_2_method_2_code 42 = .ok (.istore 5, 2)) (Nat.le_of_ble_eq_true rfl) rfl ?_
        refine g_aload_n (by decide +kernel : decode prog_2_method_2_code 44 = .ok (.aload_n 0, 1)) rfl ?_
        refine g_getI (by decide +kernel : decode prog_2_method_2_code 45 = .ok (.getfield 15, 3)) fl_Ac_15.get rfl rfl ?_
        refine g_top (w := nI 1) (t5) ?_
        refine g_if_eqN (tgt := 56) (by decide +kernel : decode prog_2_method_2_code 48 = .ok (.ifCond .eq 8, 3)) (by decide) (by decide) (fun h => False.elim (by revert h; decide)) (fun _ => ?_)
        refine g_bipush (v := (-15)) (by decide +kernel : decode prog_2_method_2_code 51 = .ok (.bipush (-15), 2)) (by decide) ?_
        refine g_goto (tgt := 58) (by decide +kernel : decode prog_2_method_2_code 53 = .ok (.goto 5, 3)) (by decide) ?_
        exact g_iret hR (by decide +kernel : decode prog_2_method_2_code 58 = .ok (.ireturn, 1)) rfl ⟨_, rfl, per_end rfl (by unfold aP; rw [if_pos hna]; try rfl) rfl t1 t2 tc (fun c c1 => by rw [s_up_n _ _ _ c1, s_up_n _ _ _ c1, s_up_n _ _ _ c1, s_up_n _ _ _ c1])⟩
      · refine g_callVI [.int (nI 3), .int (nI 2), .int z, .int (nI 0)] (by decide +kernel : decode prog_2_method_2_code 39 = .ok (.invokevirtual 37, 3)) lk_Ac_37 (run_emb (l := [nI 50, nI 12]) (p := 0) e1 rfl (r_3_3_2d _ _ 0 z rfl rfl rfl (d := 0) (by decide) (by decide) (by omega) ha9 hna) rfl) rfl rfl rfl rfl (Nat.le_of_ble_eq_true rfl) (Nat.le_of_ble_eq_true rfl) (fun r39 s39 h39 => ?_)
        obtain ⟨rfl, t1, t2, t5, tc⟩ := h39
        refine g_istore (L' := [some (.ref 41), some (.ref 1), some (.int (nI o)), some (.int (nI 2)), some (.int z), some (.int ((pP o a (z + nI a)) * nI 2))]) (by decide +kernel : decode prog_2_method_2_code 42 = .ok (.istore 5, 2)) (Nat.le_of_ble_eq_true rfl) rfl ?_
        refine g_aload_n (by decide +kernel : decode prog_2_method_2_code 44 = .ok (.aload_n 0, 1)) rfl ?_
        refine g_getI (by decide +kernel : decode prog_2_method_2_code 45 = .ok (.getfield 15, 3)) fl_Ac_15.get rfl rfl ?_
        refine g_top (w := nI 0) (t5) ?_
        refine g_if_eqN (tgt := 56) (by decide +kernel : decode prog_2_method_2_code 48 = .ok (.ifCond .eq 8, 3)) (by decide) (by decide) (fun _ => ?_) (fun h => False.elim (by revert h; decide))
        refine g_iload (by decide +kernel : decode prog_2_method_2_code 56 = .ok (.iload 5, 2)) rfl ?_
        exact g_iret hR (by decide +kernel : decode prog_2_method_2_code 58 = .ok (.ireturn, 1)) rfl ⟨_, rfl, per_end rfl (by unfold aP; rw [if_neg hna]) rfl t1 t2 tc (fun c c1 => by rw [s_up_n _ _ _ c1, s_up_n _ _ _ c1, s_up_n _ _ _ c1, s_up_n _ _ _ c1])⟩
    · refine g_callVI [.int (nI 3), .int (nI 3), .int z, .int (nI 0)] (by decide +kernel : decode prog_2_method_2_code 39 = .ok (.invokevirtual 37, 3)) lk_Ac_37 (run_emb (l := [nI 13, nI 20, nI 11, nI 51, nI 10]) (p := 0) e1 rfl (r_3_3_3 _ _ 0 z rfl rfl rfl (d := 0) (by decide) (by decide)) rfl) rfl rfl rfl rfl (Nat.le_of_ble_eq_true rfl) (Nat.le_of_ble_eq_true rfl) (fun r39 s39 h39 => ?_)
      obtain ⟨rfl, t1, t2, t5, tc⟩ := h39
      refine g_istore (L' := [some (.ref 41), some (.ref 1), some (.int (nI o)), some (.int (nI 3)), some (.int z), some (.int (((((z - nI (o * 2)) - nI o) * nI 2 - nI a) + nI 5) ^^^ nI 12))]) (by decide +kernel : decode prog_2_method_2_code 42 = .ok (.istore 5, 2)) (Nat.le_of_ble_eq_true rfl) rfl ?_
      refine g_aload_n (by decide +kernel : decode prog_2_method_2_code 44 = .ok (.aload_n 0, 1)) rfl ?_
      refine g_getI (by decide +kernel : decode prog_2_method_2_code 45 = .ok (.getfield 15, 3)) fl_Ac_15.get rfl rfl ?_
      refine g_top (w := nI 0) (t5) ?_
      refine g_if_eqN (tgt := 56) (by decide +kernel : decode prog_2_method_2_code 48 = .ok (.ifCond .eq 8, 3)) (by decide) (by decide) (fun _ => ?_) (fun h => False.elim (by revert h; decide))
      refine g_iload (by decide +kernel : decode prog_2_method_2_code 56 = .ok (.iload 5, 2)) rfl ?_
      exact g_iret hR (by decide +kernel : decode prog_2_method_2_code 58 = .ok (.ireturn, 1)) rfl ⟨_, rfl, per_end rfl (aP3 (by decide) (by decide)) rfl t1 t2 tc (fun c c1 => by rw [s_up_n _ _ _ c1, s_up_n _ _ _ c1, s_up_n _ _ _ c1, s_up_n _ _ _ c1])⟩
  · rcases (show w = 0 ∨ w = 1 ∨ w = 2 ∨ w = 3 by omega) with rfl | rfl | rfl | rfl
    · refine g_callVI [.int (nI 4), .int (nI 0), .int z, .int (nI 0)] (by decide +kernel : decode prog_2_method_2_code 39 = .ok (.invokevirtual 37, 3)) lk_Ac_37 (run_emb (l := [nI 40, nI 30, nI 10]) (p := 0) e1 rfl (r_4_4_0 _ _ 0 z rfl rfl rfl (d := 0) (by decide) (by decide)) rfl) rfl rfl rfl rfl (Nat.le_of_ble_eq_true rfl) (Nat.le_of_ble_eq_true rfl) (fun r39 s39 h39 => ?_)
      obtain ⟨rfl, t1, t2, t5, tc⟩ := h39
      refine g_istore (L' := [some (.ref 41), some (.ref 1), some (.int (nI o)), some (.int (nI 0)), some (.int z), some (.int (nI 1 - ((z - nI (o * 2)) ^^^ nI 3)))]) (by decide +kernel : decode prog_2_method_2_code 42 = .ok (.istore 5, 2)) (Nat.le_of_ble_eq_true rfl) rfl ?_
      refine g_aload_n (by decide +kernel : decode prog_2_method_2_code 44 = .ok (.aload_n 0, 1)) rfl ?_
      refine g_getI (by decide +kernel : decode prog_2_method_2_code 45 = .ok (.getfield 15, 3)) fl_Ac_15.get rfl rfl ?_
      refine g_top (w := nI 0) (t5) ?_
      refine g_if_eqN (tgt := 56) (by decide +kernel : decode prog_2_method_2_code 48 = .ok (.ifCond .eq 8, 3)) (by decide) (by decide) (fun _ => ?_) (fun h => False.elim (by revert h; decide))
      refine g_iload (by decide +kernel : decode prog_2_method_2_code 56 = .ok (.iload 5, 2)) rfl ?_
      exact g_iret hR (by decide +kernel : decode prog_2_method_2_code 58 = .ok (.ireturn, 1)) rfl ⟨_, rfl, per_end rfl (aP_01 (by decide)) rfl t1 t2 tc (fun c c1 => by rw [s_up_n _ _ _ c1, s_up_n _ _ _ c1, s_up_n _ _ _ c1, s_up_n _ _ _ c1])⟩
    · refine g_callVI [.int (nI 4), .int (nI 1), .int z, .int (nI 0)] (by decide +kernel : decode prog_2_method_2_code 39 = .ok (.invokevirtual 37, 3)) lk_Ac_37 (run_emb (l := [nI 41, nI 11, nI 40, nI 30, nI 10, nI 40, nI 30, nI 10]) (p := 0) e1 rfl (r_4_4_1 _ _ 0 z rfl rfl rfl (d := 0) (by decide) (by decide)) rfl) rfl rfl rfl rfl (Nat.le_of_ble_eq_true rfl) (Nat.le_of_ble_eq_true rfl) (fun r39 s39 h39 => ?_)
      obtain ⟨rfl, t1, t2, t5, tc⟩ := h39
      refine g_istore (L' := [some (.ref 41), some (.ref 1), some (.int (nI o)), some (.int (nI 1)), some (.int z), some (.int (((nI 1 - ((z - nI (o * 2)) ^^^ nI 3)) * nI 2 - nI a) + (nI 1 - ((nI a - nI (o * 2)) ^^^ nI 3))))]) (by decide +kernel : decode prog_2_method_2_code 42 = .ok (.istore 5, 2)) (Nat.le_of_ble_eq_true rfl) rfl ?_
      refine g_aload_n (by decide +kernel : decode prog_2_method_2_code 44 = .ok (.aload_n 0, 1)) rfl ?_
      refine g_getI (by decide +kernel : decode prog_2_method_2_code 45 = .ok (.getfield 15, 3)) fl_Ac_15.get rfl rfl ?_
      refine g_top (w := nI 0) (t5) ?_
      refine g_if_eqN (tgt := 56) (by decide +kernel : decode prog_2_method_2_code 48 = .ok (.ifCond .eq 8, 3)) (by decide) (by decide) (fun _ => ?_) (fun h => False.elim (by revert h; decide))
      refine g_iload (by decide +kernel : decode prog_2_method_2_code 56 = .ok (.iload 5, 2)) rfl ?_
      exact g_iret hR (by decide +kernel : decode prog_2_method_2_code 58 = .ok (.ireturn, 1)) rfl ⟨_, rfl, per_end rfl (aP_01 (by decide)) rfl t1 t2 tc (fun c c1 => by rw [s_up_n _ _ _ c1, s_up_n _ _ _ c1, s_up_n _ _ _ c1, s_up_n _ _ _ c1])⟩
    · by_cases hna : o = a
      · refine g_callVI [.int (nI 4), .int (nI 2), .int z, .int (nI 0)] (by decide +kernel : decode prog_2_method_2_code 39 = .ok (.invokevirtual 37, 3)) lk_Ac_37 (run_emb (l := [nI 12]) (p := 1) e1 rfl (r_4_4_2e _ _ 0 z rfl rfl rfl (d := 0) (by decide) (by decide) (by omega) ha9 hna) rfl) rfl rfl rfl rfl (Nat.le_of_ble_eq_true rfl) (Nat.le_of_ble_eq_true rfl) (fun r39 s39 h39 => ?_)
        obtain ⟨rfl, t1, t2, t5, tc⟩ := h39
        refine g_istore (L' := [some (.ref 41), some (.ref 1), some (.int (nI o)), some (.int (nI 2)), some (.int z), some (.int (pP o a z))]) (by decide +kernel : decode prog_2_method_2_code 42 = .ok (.istore 5, 2)) (Nat.le_of_ble_eq_true rfl) rfl ?_
        refine g_aload_n (by decide +kernel : decode prog_2_method_2_code 44 = .ok (.aload_n 0, 1)) rfl ?_
        refine g_getI (by decide +kernel : decode prog_2_method_2_code 45 = .ok (.getfield 15, 3)) fl_Ac_15.get rfl rfl ?_
        refine g_top (w := nI 1) (t5) ?_
        refine g_if_eqN (tgt := 56) (by decide +kernel : decode prog_2_method_2_code 48 = .ok (.ifCond .eq 8, 3)) (by decide) (by decide) (fun h => False.elim (by revert h; decide)) (fun _ => ?_)
        refine g_bipush (v := (-15)) (by decide +kernel : decode prog_2_method_2_code 51 = .ok (.bipush (-15), 2)) (by decide) ?_
        refine g_goto (tgt := 58) (by decide +kernel : decode prog_2_method_2_code 53 = .ok (.goto 5, 3)) (by decide) ?_
        exact g_iret hR (by decide +kernel : decode prog_2_method_2_code 58 = .ok (.ireturn, 1)) rfl ⟨_, rfl, per_end rfl (by unfold aP; rw [if_pos hna]; try rfl) rfl t1 t2 tc (fun c c1 => by rw [s_up_n _ _ _ c1, s_up_n _ _ _ c1, s_up_n _ _ _ c1, s_up_n _ _ _ c1])⟩
      · refine g_callVI [.int (nI 4), .int (nI 2), .int z, .int (nI 0)] (by decide +kernel : decode prog_2_method_2_code 39 = .ok (.invokevirtual 37, 3)) lk_Ac_37 (run_emb (l := [nI 12]) (p := 0) e1 rfl (r_4_4_2d _ _ 0 z rfl rfl rfl (d := 0) (by decide) (by decide) (by omega) ha9 hna) rfl) rfl rfl rfl rfl (Nat.le_of_ble_eq_true rfl) (Nat.le_of_ble_eq_true rfl) (fun r39 s39 h39 => ?_)
        obtain ⟨rfl, t1, t2, t5, tc⟩ := h39
        refine g_istore (L' := [some (.ref 41), some (.ref 1), some (.int (nI o)), some (.int (nI 2)), some (.int z), some (.int (pP o a z))]) (by decide +kernel : decode prog_2_method_2_code 42 = .ok (.istore 5, 2)) (Nat.le_of_ble_eq_true rfl) rfl ?_
        refine g_aload_n (by decide +kernel : decode prog_2_method_2_code 44 = .ok (.aload_n 0, 1)) rfl ?_
        refine g_getI (by decide +kernel : decode prog_2_method_2_code 45 = .ok (.getfield 15, 3)) fl_Ac_15.get rfl rfl ?_
        refine g_top (w := nI 0) (t5) ?_
        refine g_if_eqN (tgt := 56) (by decide +kernel : decode prog_2_method_2_code 48 = .ok (.ifCond .eq 8, 3)) (by decide) (by decide) (fun _ => ?_) (fun h => False.elim (by revert h; decide))
        refine g_iload (by decide +kernel : decode prog_2_method_2_code 56 = .ok (.iload 5, 2)) rfl ?_
        exact g_iret hR (by decide +kernel : decode prog_2_method_2_code 58 = .ok (.ireturn, 1)) rfl ⟨_, rfl, per_end rfl (by unfold aP; rw [if_neg hna]) rfl t1 t2 tc (fun c c1 => by rw [s_up_n _ _ _ c1, s_up_n _ _ _ c1, s_up_n _ _ _ c1, s_up_n _ _ _ c1])⟩
    · by_cases hna : o = a
      · refine g_callVI [.int (nI 4), .int (nI 3), .int z, .int (nI 0)] (by decide +kernel : decode prog_2_method_2_code 39 = .ok (.invokevirtual 37, 3)) lk_Ac_37 (run_emb (l := [nI 31, nI 13, nI 41, nI 11, nI 40, nI 30, nI 10, nI 40, nI 30, nI 10, nI 12]) (p := 1) e1 rfl (r_4_4_3e _ _ 0 z rfl rfl rfl (d := 0) (by decide) (by decide) (by omega) ha9 hna) rfl) rfl rfl rfl rfl (Nat.le_of_ble_eq_true rfl) (Nat.le_of_ble_eq_true rfl) (fun r39 s39 h39 => ?_)
        obtain ⟨rfl, t1, t2, t5, tc⟩ := h39
        refine g_istore (L' := [some (.ref 41), some (.ref 1), some (.int (nI o)), some (.int (nI 3)), some (.int z), some (.int (((((nI 1 - ((z - nI (o * 2)) ^^^ nI 3)) * nI 2 - nI a) + (nI 1 - ((nI a - nI (o * 2)) ^^^ nI 3))) ^^^ nI 12) - (pP o a (nI o))))]) (by decide +kernel : decode prog_2_method_2_code 42 = .ok (.istore 5, 2)) (Nat.le_of_ble_eq_true rfl) rfl ?_
        refine g_aload_n (by decide +kernel : decode prog_2_method_2_code 44 = .ok (.aload_n 0, 1)) rfl ?_
        refine g_getI (by decide +kernel : decode prog_2_method_2_code 45 = .ok (.getfield 15, 3)) fl_Ac_15.get rfl rfl ?_
        refine g_top (w := nI 1) (t5) ?_
        refine g_if_eqN (tgt := 56) (by decide +kernel : decode prog_2_method_2_code 48 = .ok (.ifCond .eq 8, 3)) (by decide) (by decide) (fun h => False.elim (by revert h; decide)) (fun _ => ?_)
        refine g_bipush (v := (-15)) (by decide +kernel : decode prog_2_method_2_code 51 = .ok (.bipush (-15), 2)) (by decide) ?_
        refine g_goto (tgt := 58) (by decide +kernel : decode prog_2_method_2_code 53 = .ok (.goto 5, 3)) (by decide) ?_
        exact g_iret hR (by decide +kernel : decode prog_2_method_2_code 58 = .ok (.ireturn, 1)) rfl ⟨_, rfl, per_end rfl (by unfold aP; rw [if_pos hna]; try rfl) rfl t1 t2 tc (fun c c1 => by rw [s_up_n _ _ _ c1, s_up_n _ _ _ c1, s_up_n _ _ _ c1, s_up_n _ _ _ c1])⟩
      · refine g_callVI [.int (nI 4), .int (nI 3), .int z, .int (nI 0)] (by decide +kernel : decode prog_2_method_2_code 39 = .ok (.invokevirtual 37, 3)) lk_Ac_37 (run_emb (l := [nI 31, nI 13, nI 41, nI 11, nI 40, nI 30, nI 10, nI 40, nI 30, nI 10, nI 12]) (p := 0) e1 rfl (r_4_4_3d _ _ 0 z rfl rfl rfl (d := 0) (by decide) (by decide) (by omega) ha9 hna) rfl) rfl rfl rfl rfl (Nat.le_of_ble_eq_true rfl) (Nat.le_of_ble_eq_true rfl) (fun r39 s39 h39 => ?_)
        obtain ⟨rfl, t1, t2, t5, tc⟩ := h39
        refine g_istore (L' := [some (.ref 41), some (.ref 1), some (.int (nI o)), some (.int (nI 3)), some (.int z), some (.int (((((nI 1 - ((z - nI (o * 2)) ^^^ nI 3)) * nI 2 - nI a) + (nI 1 - ((nI a - nI (o * 2)) ^^^ nI 3))) ^^^ nI 12) - (pP o a (nI o))))]) (by decide +kernel : decode prog_2_method_2_code 42 = .ok (.istore 5, 2)) (Nat.le_of_ble_eq_true rfl) rfl ?_
        refine g_aload_n (by decide +kernel : decode prog_2_method_2_code 44 = .ok (.aload_n 0, 1)) rfl ?_
        refine g_getI (by decide +kernel : decode prog_2_method_2_code 45 = .ok (.getfield 15, 3)) fl_Ac_15.get rfl rfl ?_
        refine g_top (w := nI 0) (t5) ?_
        refine g_if_eqN (tgt := 56) (by decide +kernel : decode prog_2_method_2_code 48 = .ok (.ifCond .eq 8, 3)) (by decide) (by decide) (fun _ => ?_) (fun h => False.elim (by revert h; decide))
        refine g_iload (by decide +kernel : decode prog_2_method_2_code 56 = .ok (.iload 5, 2)) rfl ?_
        exact g_iret hR (by decide +kernel : decode prog_2_method_2_code 58 = .ok (.ireturn, 1)) rfl ⟨_, rfl, per_end rfl (by unfold aP; rw [if_neg hna]) rfl t1 t2 tc (fun c c1 => by rw [s_up_n _ _ _ c1, s_up_n _ _ _ c1, s_up_n _ _ _ c1, s_up_n _ _ _ c1])⟩
  · rcases (show w = 0 ∨ w = 1 ∨ w = 2 ∨ w = 3 by omega) with rfl | rfl | rfl | rfl
    · refine g_callVI [.int (nI 5), .int (nI 0), .int z, .int (nI 0)] (by decide +kernel : decode prog_2_method_2_code 39 = .ok (.invokevirtual 37, 3)) lk_Ac_37 (run_emb (l := [nI 10]) (p := 0) e1 rfl (r_5_5_0 _ _ 0 z rfl rfl rfl (d := 0) (by decide) (by decide)) rfl) rfl rfl rfl rfl (Nat.le_of_ble_eq_true rfl) (Nat.le_of_ble_eq_true rfl) (fun r39 s39 h39 => ?_)
      obtain ⟨rfl, t1, t2, t5, tc⟩ := h39
      refine g_istore (L' := [some (.ref 41), some (.ref 1), some (.int (nI o)), some (.int (nI 0)), some (.int z), some (.int (z - nI (o * 2)))]) (by decide +kernel : decode prog_2_method_2_code 42 = .ok (.istore 5, 2)) (Nat.le_of_ble_eq_true rfl) rfl ?_
      refine g_aload_n (by decide +kernel : decode prog_2_method_2_code 44 = .ok (.aload_n 0, 1)) rfl ?_
      refine g_getI (by decide +kernel : decode prog_2_method_2_code 45 = .ok (.getfield 15, 3)) fl_Ac_15.get rfl rfl ?_
      refine g_top (w := nI 0) (t5) ?_
      refine g_if_eqN (tgt := 56) (by decide +kernel : decode prog_2_method_2_code 48 = .ok (.ifCond .eq 8, 3)) (by decide) (by decide) (fun _ => ?_) (fun h => False.elim (by revert h; decide))
      refine g_iload (by decide +kernel : decode prog_2_method_2_code 56 = .ok (.iload 5, 2)) rfl ?_
      exact g_iret hR (by decide +kernel : decode prog_2_method_2_code 58 = .ok (.ireturn, 1)) rfl ⟨_, rfl, per_end rfl (aP_01 (by decide)) rfl t1 t2 tc (fun c c1 => by rw [s_up_n _ _ _ c1, s_up_n _ _ _ c1, s_up_n _ _ _ c1, s_up_n _ _ _ c1])⟩
    · refine g_callVI [.int (nI 5), .int (nI 1), .int z, .int (nI 0)] (by decide +kernel : decode prog_2_method_2_code 39 = .ok (.invokevirtual 37, 3)) lk_Ac_37 (run_emb (l := [nI 11, nI 10]) (p := 0) e1 rfl (r_5_5_1 _ _ 0 z rfl rfl rfl (d := 0) (by decide) (by decide)) rfl) rfl rfl rfl rfl (Nat.le_of_ble_eq_true rfl) (Nat.le_of_ble_eq_true rfl) (fun r39 s39 h39 => ?_)
      obtain ⟨rfl, t1, t2, t5, tc⟩ := h39
      refine g_istore (L' := [some (.ref 41), some (.ref 1), some (.int (nI o)), some (.int (nI 1)), some (.int z), some (.int ((z - nI (o * 2)) * nI 2 - nI a))]) (by decide +kernel : decode prog_2_method_2_code 42 = .ok (.istore 5, 2)) (Nat.le_of_ble_eq_true rfl) rfl ?_
      refine g_aload_n (by decide +kernel : decode prog_2_method_2_code 44 = .ok (.aload_n 0, 1)) rfl ?_
      refine g_getI (by decide +kernel : decode prog_2_method_2_code 45 = .ok (.getfield 15, 3)) fl_Ac_15.get rfl rfl ?_
      refine g_top (w := nI 0) (t5) ?_
      refine g_if_eqN (tgt := 56) (by decide +kernel : decode prog_2_method_2_code 48 = .ok (.ifCond .eq 8, 3)) (by decide) (by decide) (fun _ => ?_) (fun h => False.elim (by revert h; decide))
      refine g_iload (by decide +kernel : decode prog_2_method_2_code 56 = .ok (.iload 5, 2)) rfl ?_
      exact g_iret hR (by decide +kernel : decode prog_2_method_2_code 58 = .ok (.ireturn, 1)) rfl ⟨_, rfl, per_end rfl (aP_01 (by decide)) rfl t1 t2 tc (fun c c1 => by rw [s_up_n _ _ _ c1, s_up_n _ _ _ c1, s_up_n _ _ _ c1, s_up_n _ _ _ c1])⟩
    · by_cases hna : o = a
      · refine g_callVI [.int (nI 5), .int (nI 2), .int z, .int (nI 0)] (by decide +kernel : decode prog_2_method_2_code 39 = .ok (.invokevirtual 37, 3)) lk_Ac_37 (run_emb (l := [nI 61, nI 12]) (p := 1) e1 rfl (r_5_5_2e _ _ 0 z rfl rfl rfl (d := 0) (by decide) (by decide) (by omega) ha9 hna) rfl) rfl rfl rfl rfl (Nat.le_of_ble_eq_true rfl) (Nat.le_of_ble_eq_true rfl) (fun r39 s39 h39 => ?_)
        obtain ⟨rfl, t1, t2, t5, tc⟩ := h39
        refine g_istore (L' := [some (.ref 41), some (.ref 1), some (.int (nI o)), some (.int (nI 2)), some (.int z), some (.int ((pP o a z) ^^^ (nI 0)))]) (by decide +kernel : decode prog_2_method_2_code 42 = .ok (.istore 5, 2)) (Nat.le_of_ble_eq_true rfl) rfl ?_
        refine g_aload_n (by decide +kernel : decode prog_2_method_2_code 44 = .ok (.aload_n 0, 1)) rfl ?_
        refine g_getI (by decide +kernel : decode prog_2_method_2_code 45 = .ok (.getfield 15, 3)) fl_Ac_15.get rfl rfl ?_
        refine g_top (w := nI 1) (t5) ?_
        refine g_if_eqN (tgt := 56) (by decide +kernel : decode prog_2_method_2_code 48 = .ok (.ifCond .eq 8, 3)) (by decide) (by decide) (fun h => False.elim (by revert h; decide)) (fun _ => ?_)
        refine g_bipush (v := (-15)) (by decide +kernel : decode prog_2_method_2_code 51 = .ok (.bipush (-15), 2)) (by decide) ?_
        refine g_goto (tgt := 58) (by decide +kernel : decode prog_2_method_2_code 53 = .ok (.goto 5, 3)) (by decide) ?_
        exact g_iret hR (by decide +kernel : decode prog_2_method_2_code 58 = .ok (.ireturn, 1)) rfl ⟨_, rfl, per_end (by show nI 61 :: nI 12 :: (if o = a then [] else cC 5) = _; rw [if_pos hna]; try rfl) (by unfold aP; rw [if_pos hna]; try rfl) rfl t1 t2 tc (fun c c1 => by rw [s_up_n _ _ _ c1, s_up_n _ _ _ c1, s_up_n _ _ _ c1, s_up_n _ _ _ c1])⟩
      · refine g_callVI [.int (nI 5), .int (nI 2), .int z, .int (nI 0)] (by decide +kernel : decode prog_2_method_2_code 39 = .ok (.invokevirtual 37, 3)) lk_Ac_37 (run_emb (l := [nI 61, nI 12, nI 10]) (p := 0) e1 rfl (r_5_5_2d _ _ 0 z rfl rfl rfl (d := 0) (by decide) (by decide) (by omega) ha9 hna) rfl) rfl rfl rfl rfl (Nat.le_of_ble_eq_true rfl) (Nat.le_of_ble_eq_true rfl) (fun r39 s39 h39 => ?_)
        obtain ⟨rfl, t1, t2, t5, tc⟩ := h39
        refine g_istore (L' := [some (.ref 41), some (.ref 1), some (.int (nI o)), some (.int (nI 2)), some (.int z), some (.int ((pP o a z) ^^^ (nI o - nI (o * 2))))]) (by decide +kernel : decode prog_2_method_2_code 42 = .ok (.istore 5, 2)) (Nat.le_of_ble_eq_true rfl) rfl ?_
        refine g_aload_n (by decide +kernel : decode prog_2_method_2_code 44 = .ok (.aload_n 0, 1)) rfl ?_
        refine g_getI (by decide +kernel : decode prog_2_method_2_code 45 = .ok (.getfield 15, 3)) fl_Ac_15.get rfl rfl ?_
        refine g_top (w := nI 0) (t5) ?_
        refine g_if_eqN (tgt := 56) (by decide +kernel : decode prog_2_method_2_code 48 = .ok (.ifCond .eq 8, 3)) (by decide) (by decide) (fun _ => ?_) (fun h => False.elim (by revert h; decide))
        refine g_iload (by decide +kernel : decode prog_2_method_2_code 56 = .ok (.iload 5, 2)) rfl ?_
        exact g_iret hR (by decide +kernel : decode prog_2_method_2_code 58 = .ok (.ireturn, 1)) rfl ⟨_, rfl, per_end (by show nI 61 :: nI 12 :: (if o = a then [] else cC 5) = _; rw [if_neg hna]; try rfl) (by unfold aP; rw [if_neg hna]) (by rw [if_pos rfl]; show _ = if o = a then nI 0 else pP o a z ^^^ cV 5 o (nI o); rw [if_neg hna]; rfl) t1 t2 tc (fun c c1 => by rw [s_up_n _ _ _ c1, s_up_n _ _ _ c1, s_up_n _ _ _ c1, s_up_n _ _ _ c1])⟩
    · refine g_callVI [.int (nI 5), .int (nI 3), .int z, .int (nI 0)] (by decide +kernel : decode prog_2_method_2_code 39 = .ok (.invokevirtual 37, 3)) lk_Ac_37 (run_emb (l := [nI 60, nI 13, nI 11, nI 10]) (p := 0) e1 rfl (r_5_5_3 _ _ 0 z rfl rfl rfl (d := 0) (by decide) (by decide)) rfl) rfl rfl rfl rfl (Nat.le_of_ble_eq_true rfl) (Nat.le_of_ble_eq_true rfl) (fun r39 s39 h39 => ?_)
      obtain ⟨rfl, t1, t2, t5, tc⟩ := h39
      refine g_istore (L' := [some (.ref 41), some (.ref 1), some (.int (nI o)), some (.int (nI 3)), some (.int z), some (.int ((((z - nI (o * 2)) * nI 2 - nI a) ^^^ nI 12) * nI 3))]) (by decide +kernel : decode prog_2_method_2_code 42 = .ok (.istore 5, 2)) (Nat.le_of_ble_eq_true rfl) rfl ?_
      refine g_aload_n (by decide +kernel : decode prog_2_method_2_code 44 = .ok (.aload_n 0, 1)) rfl ?_
      refine g_getI (by decide +kernel : decode prog_2_method_2_code 45 = .ok (.getfield 15, 3)) fl_Ac_15.get rfl rfl ?_
      refine g_top (w := nI 0) (t5) ?_
      refine g_if_eqN (tgt := 56) (by decide +kernel : decode prog_2_method_2_code 48 = .ok (.ifCond .eq 8, 3)) (by decide) (by decide) (fun _ => ?_) (fun h => False.elim (by revert h; decide))
      refine g_iload (by decide +kernel : decode prog_2_method_2_code 56 = .ok (.iload 5, 2)) rfl ?_
      exact g_iret hR (by decide +kernel : decode prog_2_method_2_code 58 = .ok (.ireturn, 1)) rfl ⟨_, rfl, per_end rfl (aP3 (by decide) (by decide)) rfl t1 t2 tc (fun c c1 => by rw [s_up_n _ _ _ c1, s_up_n _ _ _ c1, s_up_n _ _ _ c1, s_up_n _ _ _ c1])⟩
def ActP (σ τ : Store) (f : Row) (x y z : Int32) : Int32 → Store → Prop := fun r σ' => r = actV τ f x y z ∧ σ' 41 1 = nI (actL τ f x y).length ∧ (∀ i, i < (actL τ f x y).length → σ' 42 i = (actL τ f x y).getD i 0) ∧ ∀ c, c ≠ 41 → c ≠ 42 → σ' c = σ c
theorem ac_no {σ τ : Store} {f : Row} {x y z : Int32} (h : actQ τ f x y = none) : ActP σ τ f x y z (nI 0) (s_up σ 41 1 (nI 0)) := by
  refine ⟨by unfold actV; rw [h], by unfold actL; rw [h]; rfl, fun i hi => by unfold actL at hi; rw [h] at hi; exact absurd hi (Nat.not_lt_zero _), fun c c1 c2 => s_up_n _ _ _ c1⟩
theorem ac_yes {σ σ' τ : Store} {f : Row} {x y z r : Int32} {w k o a : Nat} (h : actQ τ f x y = some (w, k, o, a)) (hP : PerP (s_up σ 41 1 (nI 0)) w k o a z r σ') : ActP σ τ f x y z r σ' := by
  obtain ⟨h1, h2, h3, h4⟩ := hP
  have hL : actL τ f x y = actC w k o a := by unfold actL; rw [h]
  refine ⟨by unfold actV; rw [h]; exact h1, by rw [hL]; exact h2, by rw [hL]; exact h3, fun c c1 c2 => (h4 c c1 c2).trans (s_up_n _ _ _ c1)⟩
theorem RX.a0 {σ τ : Store} {f : Row} (h : RX σ τ f) (v : Int32) : RP (nV (s_up σ 41 1 v)) f := h.1
theorem RX.acz {σ τ : Store} {f : Row} (h : RX σ τ f) : RX (s_up σ 41 1 (nI 0)) (s_up τ 0 22 (nI 0)) f := by
  exact ⟨h.1, h.2.1, h.2.2.1, h.2.2.2.1, h.2.2.2.2.1, h.2.2.2.2.2.1, ⟨0, by decide, rfl, rfl, fun i hi => absurd hi (Nat.not_lt_zero _)⟩⟩
set_option maxRecDepth 20000 in
theorem k_act {σ τ : Store} {f : Row} (h : RX σ τ f) (x y z : Int32) : Ct ΛC mt_LS_act 9 [.ref 0, .int x, .int y, .int z] σ (PI (ActP σ τ f x y z)) := by
  refine Ct.of (by decide) (Nat.le_of_ble_eq_true rfl) (fun X hR => ?_)
  show G (ΛC, mt_LS_act, 9) X σ [some (.ref 0), some (.int x), some (.int y), some (.int z), none] [] 0
  have hn8 := h.n8
  refine g_aload_n (by decide +kernel : decode prog_1_method_54_code 0 = .ok (.aload_n 0, 1)) rfl ?_
  refine g_getR (by decide +kernel : decode prog_1_method_54_code 1 = .ok (.getfield 58, 3)) fl_LS_58 rfl rfl ?_
  refine g_iconst (v := nI 0) (by decide +kernel : decode prog_1_method_54_code 4 = .ok (.iconst 0, 1)) (by decide) ?_
  refine g_putI (by decide +kernel : decode prog_1_method_54_code 5 = .ok (.putfield 315, 3)) fl_LS_315 rfl rfl ?_
  refine g_iload_n (by decide +kernel : decode prog_1_method_54_code 8 = .ok (.iload_n 1, 1)) rfl ?_
  refine g_callSI [.int x] (by decide +kernel : decode prog_1_method_54_code 9 = .ok (.invokestatic 285, 3)) lk_LS_285 (k_isShelf _ x) rfl rfl (Nat.le_of_ble_eq_true rfl) (Nat.le_of_ble_eq_true rfl) (fun r9 s9 h9 => ?_)
  rcases h9 with ⟨e9, ⟨rfl, t, ha9, hb9, rfl⟩ | ⟨rfl, n9⟩⟩
  · have e9 := e9.symm; subst e9
    refine g_if_eqN (tgt := 35) (by decide +kernel : decode prog_1_method_54_code 12 = .ok (.ifCond .eq 23, 3)) (by decide) (by decide) (fun h => False.elim (by revert h; decide)) (fun _ => ?_)
    refine g_iload_n (by decide +kernel : decode prog_1_method_54_code 15 = .ok (.iload_n 2, 1)) rfl ?_
    refine g_iconst (v := nI 0) (by decide +kernel : decode prog_1_method_54_code 16 = .ok (.iconst 0, 1)) (by decide) ?_
    refine g_iconst (v := nI 3) (by decide +kernel : decode prog_1_method_54_code 17 = .ok (.iconst 3, 1)) (by decide) ?_
    refine g_callSI [.int y, .int (nI 0), .int (nI 3)] (by decide +kernel : decode prog_1_method_54_code 18 = .ok (.invokestatic 62, 3)) lk_LS_62 (k_within _ y 0 3) rfl rfl (Nat.le_of_ble_eq_true rfl) (Nat.le_of_ble_eq_true rfl) (fun r18 s18 h18 => ?_)
    rcases h18 with ⟨e18, ⟨rfl, w, ha18, hb18, rfl⟩ | ⟨rfl, n18⟩⟩
    · have e18 := e18.symm; subst e18
      refine g_if_eqN (tgt := 35) (by decide +kernel : decode prog_1_method_54_code 21 = .ok (.ifCond .eq 14, 3)) (by decide) (by decide) (fun h => False.elim (by revert h; decide)) (fun _ => ?_)
      rcases h.2.2.2.2.2.1 t (by omega) with ⟨e11, eu, ev⟩ | ⟨e11, ev, j, hj, e12, eu⟩ | ⟨e11, eu, sk, sn, hs, hn, e12, e13, ev, ew⟩
      · have ehd : hd τ f t = 0 := hd_m e11 (Or.inl rfl)
        refine g_aload_n (by decide +kernel : decode prog_1_method_54_code 24 = .ok (.aload_n 0, 1)) rfl ?_
        refine g_getR (by decide +kernel : decode prog_1_method_54_code 25 = .ok (.getfield 51, 3)) fl_LS_51 rfl rfl ?_
        refine g_iload_n (by decide +kernel : decode prog_1_method_54_code 28 = .ok (.iload_n 1, 1)) rfl ?_
        refine g_callVI [.int (nI t)] (by decide +kernel : decode prog_1_method_54_code 29 = .ok (.invokevirtual 297, 3)) lk_LS_297 (c_holdsRow _ (t := t) (by omega)) rfl rfl rfl rfl (Nat.le_of_ble_eq_true rfl) (Nat.le_of_ble_eq_true rfl) (fun r29 s29 h29 => ?_)
        obtain ⟨e29, h29⟩ := h29
        have e29 := e29.symm; subst e29
        have w29 : r29 = nI 0 := by rcases h29 with ⟨z, q⟩ | ⟨z, q⟩; exact absurd ev q; exact z
        subst w29
        refine g_if_eqN (tgt := 37) (by decide +kernel : decode prog_1_method_54_code 32 = .ok (.ifCond .eq 5, 3)) (by decide) (by decide) (fun _ => ?_) (fun h => False.elim (by revert h; decide))
        refine g_aload_n (by decide +kernel : decode prog_1_method_54_code 37 = .ok (.aload_n 0, 1)) rfl ?_
        refine g_getR (by decide +kernel : decode prog_1_method_54_code 38 = .ok (.getfield 51, 3)) fl_LS_51 rfl rfl ?_
        refine g_getR (by decide +kernel : decode prog_1_method_54_code 41 = .ok (.getfield 306, 3)) fl_LS_306 rfl rfl ?_
        refine g_iload_n (by decide +kernel : decode prog_1_method_54_code 44 = .ok (.iload_n 1, 1)) rfl ?_
        refine g_iaload (a := t) (by decide +kernel : decode prog_1_method_54_code 45 = .ok (.iaload, 1)) rfl rfl (by omega) (by decide) ?_
        refine g_top (w := (-1)) (eu) ?_
        refine g_istore (L' := [some (.ref 0), some (.int (nI t)), some (.int (nI w)), some (.int z), some (.int (-1))]) (by decide +kernel : decode prog_1_method_54_code 46 = .ok (.istore 4, 2)) (Nat.le_of_ble_eq_true rfl) rfl ?_
        refine g_aload_n (by decide +kernel : decode prog_1_method_54_code 48 = .ok (.aload_n 0, 1)) rfl ?_
        refine g_getR (by decide +kernel : decode prog_1_method_54_code 49 = .ok (.getfield 20, 3)) fl_LS_20 rfl rfl ?_
        refine g_iload (by decide +kernel : decode prog_1_method_54_code 52 = .ok (.iload 4, 2)) rfl ?_
        refine g_callVI [.int (-1)] (by decide +kernel : decode prog_1_method_54_code 54 = .ok (.invokevirtual 116, 3)) lk_LS_116 (n_has (h.a0 (nI 0)) (-1)) rfl rfl rfl rfl (Nat.le_of_ble_eq_true rfl) (Nat.le_of_ble_eq_true rfl) (fun r54 s54 h54 => ?_)
        obtain ⟨e54, h54⟩ := h54
        have e54 := e54.symm; subst e54
        have w54 : r54 = nI 0 := by rcases h54 with ⟨z, i, hi, q⟩ | ⟨z, _⟩; exact absurd q (m1_ne (by omega)); exact z
        subst w54
        refine g_if_eqN (tgt := 78) (by decide +kernel : decode prog_1_method_54_code 57 = .ok (.ifCond .eq 21, 3)) (by decide) (by decide) (fun _ => ?_) (fun h => False.elim (by revert h; decide))
        refine g_iconst (v := nI 0) (by decide +kernel : decode prog_1_method_54_code 78 = .ok (.iconst 0, 1)) (by decide) ?_
        exact g_iret hR (by decide +kernel : decode prog_1_method_54_code 79 = .ok (.ireturn, 1)) rfl ⟨_, rfl, ac_no (by unfold actQ; simp only [rg_of ha9 hb9, rg_of ha18 hb18]; rw [if_neg (by rw [ehd]; decide)])⟩
      · have etj : tn (τ 12 t) = j := by rw [e12, tn_nI (by omega)]
        refine g_aload_n (by decide +kernel : decode prog_1_method_54_code 24 = .ok (.aload_n 0, 1)) rfl ?_
        refine g_getR (by decide +kernel : decode prog_1_method_54_code 25 = .ok (.getfield 51, 3)) fl_LS_51 rfl rfl ?_
        refine g_iload_n (by decide +kernel : decode prog_1_method_54_code 28 = .ok (.iload_n 1, 1)) rfl ?_
        refine g_callVI [.int (nI t)] (by decide +kernel : decode prog_1_method_54_code 29 = .ok (.invokevirtual 297, 3)) lk_LS_297 (c_holdsRow _ (t := t) (by omega)) rfl rfl rfl rfl (Nat.le_of_ble_eq_true rfl) (Nat.le_of_ble_eq_true rfl) (fun r29 s29 h29 => ?_)
        obtain ⟨e29, h29⟩ := h29
        have e29 := e29.symm; subst e29
        have w29 : r29 = nI 0 := by rcases h29 with ⟨z, q⟩ | ⟨z, q⟩; exact absurd ev q; exact z
        subst w29
        refine g_if_eqN (tgt := 37) (by decide +kernel : decode prog_1_method_54_code 32 = .ok (.ifCond .eq 5, 3)) (by decide) (by decide) (fun _ => ?_) (fun h => False.elim (by revert h; decide))
        refine g_aload_n (by decide +kernel : decode prog_1_method_54_code 37 = .ok (.aload_n 0, 1)) rfl ?_
        refine g_getR (by decide +kernel : decode prog_1_method_54_code 38 = .ok (.getfield 51, 3)) fl_LS_51 rfl rfl ?_
        refine g_getR (by decide +kernel : decode prog_1_method_54_code 41 = .ok (.getfield 306, 3)) fl_LS_306 rfl rfl ?_
        refine g_iload_n (by decide +kernel : decode prog_1_method_54_code 44 = .ok (.iload_n 1, 1)) rfl ?_
        refine g_iaload (a := t) (by decide +kernel : decode prog_1_method_54_code 45 = .ok (.iaload, 1)) rfl rfl (by omega) (by decide) ?_
        refine g_top (w := nI j) (eu) ?_
        refine g_istore (L' := [some (.ref 0), some (.int (nI t)), some (.int (nI w)), some (.int z), some (.int (nI j))]) (by decide +kernel : decode prog_1_method_54_code 46 = .ok (.istore 4, 2)) (Nat.le_of_ble_eq_true rfl) rfl ?_
        refine g_aload_n (by decide +kernel : decode prog_1_method_54_code 48 = .ok (.aload_n 0, 1)) rfl ?_
        refine g_getR (by decide +kernel : decode prog_1_method_54_code 49 = .ok (.getfield 20, 3)) fl_LS_20 rfl rfl ?_
        refine g_iload (by decide +kernel : decode prog_1_method_54_code 52 = .ok (.iload 4, 2)) rfl ?_
        refine g_callVI [.int (nI j)] (by decide +kernel : decode prog_1_method_54_code 54 = .ok (.invokevirtual 116, 3)) lk_LS_116 (n_has (h.a0 (nI 0)) (nI j)) rfl rfl rfl rfl (Nat.le_of_ble_eq_true rfl) (Nat.le_of_ble_eq_true rfl) (fun r54 s54 h54 => ?_)
        rcases h54 with ⟨e54, ⟨rfl, i, hi, q54⟩ | ⟨rfl, q54⟩⟩
        · have e54 := e54.symm; subst e54
          have hjn : j < nn f := by have := (nI_eq (by omega) (by omega)).mp q54; omega
          have ehd : hd τ f t = 1 := hd_1 h.i e11 hjn e12
          refine g_if_eqN (tgt := 78) (by decide +kernel : decode prog_1_method_54_code 57 = .ok (.ifCond .eq 21, 3)) (by decide) (by decide) (fun h => False.elim (by revert h; decide)) (fun _ => ?_)
          refine g_aload_n (by decide +kernel : decode prog_1_method_54_code 60 = .ok (.aload_n 0, 1)) rfl ?_
          refine g_getR (by decide +kernel : decode prog_1_method_54_code 61 = .ok (.getfield 58, 3)) fl_LS_58 rfl rfl ?_
          refine g_aload_n (by decide +kernel : decode prog_1_method_54_code 64 = .ok (.aload_n 0, 1)) rfl ?_
          refine g_getR (by decide +kernel : decode prog_1_method_54_code 65 = .ok (.getfield 20, 3)) fl_LS_20 rfl rfl ?_
          refine g_iload (by decide +kernel : decode prog_1_method_54_code 68 = .ok (.iload 4, 2)) rfl ?_
          refine g_iload_n (by decide +kernel : decode prog_1_method_54_code 70 = .ok (.iload_n 2, 1)) rfl ?_
          refine g_iload_n (by decide +kernel : decode prog_1_method_54_code 71 = .ok (.iload_n 3, 1)) rfl ?_
          obtain ⟨k, hk5, ek⟩ : ∃ k, k ≤ 5 ∧ f (19 + 6 * j + 0) = nI k := ⟨_, (h.i.p hjn 0).2, (h.i.p hjn 0).1⟩
          obtain ⟨a, hA9, ea⟩ : ∃ a, a ≤ 9 ∧ f (19 + 6 * j + 2) = nI a := ⟨_, (h.i.p hjn 2).2, (h.i.p hjn 2).1⟩
          refine g_callVI [.ref 1, .int (nI j), .int (nI w), .int z] (by decide +kernel : decode prog_1_method_54_code 72 = .ok (.invokevirtual 318, 3)) lk_LS_318 (c_perform (σ := s_up σ 41 1 (nI 0)) (τ := s_up τ 0 22 (nI 0)) h.acz rfl (o := j) (w := w) (k := k) (a := a) hjn (by omega) ek ea hk5 hA9 z) rfl rfl rfl rfl (Nat.le_of_ble_eq_true rfl) (Nat.le_of_ble_eq_true rfl) (fun r72 s72 h72 => ?_)
          have g72 := h72
          refine g_goto (tgt := 79) (by decide +kernel : decode prog_1_method_54_code 75 = .ok (.goto 4, 3)) (by decide) ?_
          exact g_iret hR (by decide +kernel : decode prog_1_method_54_code 79 = .ok (.ireturn, 1)) rfl ⟨_, rfl, ac_yes (by unfold actQ; simp only [rg_of ha9 hb9, rg_of ha18 hb18]; rw [if_pos ehd, etj, ek, ea, tn_nI (by omega), tn_nI (by omega)]) g72⟩
        · have e54 := e54.symm; subst e54
          have ehd : hd τ f t = 0 := hd_n h.i e11 (fun ⟨i, hi, w⟩ => q54 ⟨i, hi, e12.symm.trans w⟩)
          refine g_if_eqN (tgt := 78) (by decide +kernel : decode prog_1_method_54_code 57 = .ok (.ifCond .eq 21, 3)) (by decide) (by decide) (fun _ => ?_) (fun h => False.elim (by revert h; decide))
          refine g_iconst (v := nI 0) (by decide +kernel : decode prog_1_method_54_code 78 = .ok (.iconst 0, 1)) (by decide) ?_
          exact g_iret hR (by decide +kernel : decode prog_1_method_54_code 79 = .ok (.ireturn, 1)) rfl ⟨_, rfl, ac_no (by unfold actQ; simp only [rg_of ha9 hb9, rg_of ha18 hb18]; rw [if_neg (by rw [ehd]; decide)])⟩
      · have ehd : hd τ f t = 2 := hd_m e11 (Or.inr rfl)
        refine g_aload_n (by decide +kernel : decode prog_1_method_54_code 24 = .ok (.aload_n 0, 1)) rfl ?_
        refine g_getR (by decide +kernel : decode prog_1_method_54_code 25 = .ok (.getfield 51, 3)) fl_LS_51 rfl rfl ?_
        refine g_iload_n (by decide +kernel : decode prog_1_method_54_code 28 = .ok (.iload_n 1, 1)) rfl ?_
        refine g_callVI [.int (nI t)] (by decide +kernel : decode prog_1_method_54_code 29 = .ok (.invokevirtual 297, 3)) lk_LS_297 (c_holdsRow _ (t := t) (by omega)) rfl rfl rfl rfl (Nat.le_of_ble_eq_true rfl) (Nat.le_of_ble_eq_true rfl) (fun r29 s29 h29 => ?_)
        obtain ⟨e29, h29⟩ := h29
        have e29 := e29.symm; subst e29
        have w29 : r29 = nI 1 := by rcases h29 with ⟨z, q⟩ | ⟨z, q⟩; exact z; exact absurd (fun w => m1_ne (by omega) (w.symm.trans ev)) q
        subst w29
        refine g_if_eqN (tgt := 37) (by decide +kernel : decode prog_1_method_54_code 32 = .ok (.ifCond .eq 5, 3)) (by decide) (by decide) (fun h => False.elim (by revert h; decide)) (fun _ => ?_)
        refine g_iconst (v := nI 0) (by decide +kernel : decode prog_1_method_54_code 35 = .ok (.iconst 0, 1)) (by decide) ?_
        exact g_iret hR (by decide +kernel : decode prog_1_method_54_code 36 = .ok (.ireturn, 1)) rfl ⟨_, rfl, ac_no (by unfold actQ; simp only [rg_of ha9 hb9, rg_of ha18 hb18]; rw [if_neg (by rw [ehd]; decide)])⟩
    · have e18 := e18.symm; subst e18
      refine g_if_eqN (tgt := 35) (by decide +kernel : decode prog_1_method_54_code 21 = .ok (.ifCond .eq 14, 3)) (by decide) (by decide) (fun _ => ?_) (fun h => False.elim (by revert h; decide))
      refine g_iconst (v := nI 0) (by decide +kernel : decode prog_1_method_54_code 35 = .ok (.iconst 0, 1)) (by decide) ?_
      exact g_iret hR (by decide +kernel : decode prog_1_method_54_code 36 = .ok (.ireturn, 1)) rfl ⟨_, rfl, ac_no (by simp only [actQ, rg_of ha9 hb9, rg_none n18])⟩
  · have e9 := e9.symm; subst e9
    refine g_if_eqN (tgt := 35) (by decide +kernel : decode prog_1_method_54_code 12 = .ok (.ifCond .eq 23, 3)) (by decide) (by decide) (fun _ => ?_) (fun h => False.elim (by revert h; decide))
    refine g_iconst (v := nI 0) (by decide +kernel : decode prog_1_method_54_code 35 = .ok (.iconst 0, 1)) (by decide) ?_
    exact g_iret hR (by decide +kernel : decode prog_1_method_54_code 36 = .ok (.ireturn, 1)) rfl ⟨_, rfl, ac_no (by simp only [actQ, rg_none n9])⟩
theorem by8_r (x : Int64) (k : Nat) : Rng (by8 x k) 255 := by
  have h : (by8 x k).toBitVec = (((x >>> (Int32.toInt64 (nI (8 * k)) &&& 63)) &&& lN 255).toBitVec).setWidth 32 := by
    unfold by8
    rw [Int64.toBitVec_toInt32, BitVec.signExtend_eq_setWidth_of_le _ (by decide)]
  generalize (x >>> (Int32.toInt64 (nI (8 * k)) &&& 63)) = y at h
  have h2 : (y &&& lN 255).toBitVec = y.toBitVec &&& 255#64 := rfl
  rw [h2] at h
  have h3 : (y.toBitVec &&& 255#64).toNat ≤ 255 := by
    rw [BitVec.toNat_and]
    exact Nat.and_le_right
  refine ⟨(by8 x k).toBitVec.toNat, ?_, ?_⟩
  · rw [h, BitVec.toNat_setWidth]
    omega
  · apply Int32.toBitVec_inj.mp
    show _ = (Int32.ofNat _).toBitVec
    rw [Int32.toBitVec_ofNat', BitVec.ofNat_toNat, BitVec.setWidth_eq]
theorem by8_bv (X : BitVec 64) (n : Nat) (hn : n ≤ 56) : ((X >>> n).setWidth 32).setWidth 8 = (((X.sshiftRight n) &&& 255#64).setWidth 32).setWidth 8 := by
  apply BitVec.eq_of_getLsbD_eq
  intro i hi
  have h255 : (255#64).getLsbD i = true := by
    rcases (show i = 0 ∨ i = 1 ∨ i = 2 ∨ i = 3 ∨ i = 4 ∨ i = 5 ∨ i = 6 ∨ i = 7 by omega) with rfl | rfl | rfl | rfl | rfl | rfl | rfl | rfl <;> rfl
  have h1 : n + i < 64 := by omega
  have h2 : ¬ 64 ≤ i := by omega
  simp only [BitVec.getLsbD_setWidth, BitVec.getLsbD_and, BitVec.getLsbD_sshiftRight, BitVec.getLsbD_ushiftRight, h255, h1, h2, if_true, decide_false, decide_true, Bool.not_false, Bool.true_and, Bool.and_true, hi, show i < 32 by omega]
theorem by8_c (x : Int64) {k : Nat} (hk : k < 8) : (Int64.toInt32 ((Int64.toUInt64 x >>> ((Int32.toInt64 (nI (8 * k))).toUInt64 &&& Int64.toUInt64 63)).toInt64)).toInt8 = (by8 x k).toInt8 := by
  apply Int8.toBitVec_inj.mp
  unfold by8
  rw [Int32.toBitVec_toInt8, Int32.toBitVec_toInt8, Int64.toBitVec_toInt32, Int64.toBitVec_toInt32]
  rw [BitVec.signExtend_eq_setWidth_of_le _ (by decide), BitVec.signExtend_eq_setWidth_of_le _ (by decide), BitVec.signExtend_eq_setWidth_of_le _ (by decide), BitVec.signExtend_eq_setWidth_of_le _ (by decide)]
  have e := by8_bv x.toBitVec (8 * k) (by omega)
  rcases (show k = 0 ∨ k = 1 ∨ k = 2 ∨ k = 3 ∨ k = 4 ∨ k = 5 ∨ k = 6 ∨ k = 7 by omega) with rfl | rfl | rfl | rfl | rfl | rfl | rfl | rfl <;> exact e
theorem by8_v (x : Int64) {k : Nat} (hk : k < 8) : (Int32.toInt8 ((Int32.toInt8 (Int64.toInt32 ((Int64.toUInt64 x >>> ((Int32.toInt64 (nI (8 * k))).toUInt64 &&& Int64.toUInt64 63)).toInt64))).toInt32)).toInt32 = (by8 x k).toInt8.toInt32 := by
  rw [by8_c x hk, Int8.toInt8_toInt32]
theorem RX.fd {σ τ : Store} {f : Row} {x : Int64} {t k : Nat} (h : RX σ (fdS τ x t k) f) (hk : t + k < 200) (v : Int32) (hv : v = (by8 x k).toInt8.toInt32) : RX (s_up (s_up σ 29 1 (nI (t + k + 1))) 30 (t + k) v) (fdS τ x t (k + 1)) f := by
  obtain ⟨t', a, ⟨b1, b2, b3⟩, c⟩ := h.2.2.1
  have e : t + k = t' := (nI_eq (by omega) (by omega)).mp b1
  subst e
  refine ⟨h.1, h.2.1, ⟨t + k + 1, rfl, ⟨rfl, by omega, fun i hi => ?_⟩, fun i hi => ?_⟩, h.2.2.2⟩
  · show Rng (upd (tpN (τ 5) x t k) (t + k) (by8 x k) i) 255
    by_cases e1 : i = t + k
    · subst e1; rw [upd_s]; exact by8_r x k
    · rw [upd_n e1]; exact b3 i (by omega)
  · show upd (σ 30) (t + k) v i = (upd (tpN (τ 5) x t k) (t + k) (by8 x k) i).toInt8.toInt32
    by_cases e1 : i = t + k
    · subst e1; rw [upd_s, upd_s]; exact hv
    · rw [upd_n e1, upd_n e1]; exact c i (by omega)
theorem RX.t29 {σ τ : Store} {f : Row} (h : RX σ τ f) {t : Nat} (e : τ 0 6 = nI t) (ht : t ≤ 200) : σ 29 1 = nI t := by
  obtain ⟨t', a, ⟨b1, b2, b3⟩, c⟩ := h.2.2.1
  rw [a, ← b1, e]
set_option maxRecDepth 20000 in
theorem c_append_lp {X : CX} {τ : Store} {f : Row} {x : Int64} {t n : Nat} (hn : t + n ≤ 200) (hn8 : n ≤ 8) : ∀ (b9 k : Nat) (σ : Store), RX σ (fdS τ x t k) f → k ≤ n → n - k < b9 → Rt (ΛC, mt_Tp_append, 0) (PV (fun σ' => RX σ' (fdS τ x t n) f)) X → G (ΛC, mt_Tp_append, 0) X σ [some (.ref 29), some (.long x), none, some (.int (nI n)), some (.int (nI k))] [] 3 := by
  intro b9
  induction b9 with
  | zero => intro k σ h hk hb hR; omega
  | succ b9 ih =>
  intro k σ h hk hb hR
  have e29 : σ 29 1 = nI (t + k) := h.t29 rfl (by omega)
  refine g_iload (by decide +kernel : decode prog_7_method_2_code 3 = .ok (.iload 4, 2)) rfl ?_
  refine g_iload_n (by decide +kernel : decode prog_7_method_2_code 5 = .ok (.iload_n 3, 1)) rfl ?_
  refine g_icmp_geN (tgt := 50) (by decide +kernel : decode prog_7_method_2_code 6 = .ok (.if_icmp .ge 44, 3)) (by decide) (by omega) (by omega) (fun h6 => ?_) (fun h6 => ?_)
  · obtain rfl : k = n := by omega
    exact g_vret hR (by decide +kernel : decode prog_7_method_2_code 50 = .ok (.return_, 1)) rfl ⟨rfl, h⟩
  · refine g_aload_n (by decide +kernel : decode prog_7_method_2_code 9 = .ok (.aload_n 0, 1)) rfl ?_
    refine g_getI (by decide +kernel : decode prog_7_method_2_code 10 = .ok (.getfield 15, 3)) fl_Tp_15.get rfl rfl ?_
    refine g_top (w := nI (t + k)) (e29) ?_
    refine g_sipush (v := nI 200) (by decide +kernel : decode prog_7_method_2_code 13 = .ok (.sipush 200, 3)) (by decide) ?_
    refine g_icmp_geN (tgt := 50) (by decide +kernel : decode prog_7_method_2_code 16 = .ok (.if_icmp .ge 34, 3)) (by decide) (by omega) (by decide) (fun q => absurd q (by omega)) (fun _ => ?_)
    refine g_aload_n (by decide +kernel : decode prog_7_method_2_code 19 = .ok (.aload_n 0, 1)) rfl ?_
    refine g_getR (by decide +kernel : decode prog_7_method_2_code 20 = .ok (.getfield 9, 3)) fl_Tp_9 rfl rfl ?_
    refine g_aload_n (by decide +kernel : decode prog_7_method_2_code 23 = .ok (.aload_n 0, 1)) rfl ?_
    refine g_dup (by decide +kernel : decode prog_7_method_2_code 24 = .ok (.dup, 1)) rfl ?_
    refine g_getI (by decide +kernel : decode prog_7_method_2_code 25 = .ok (.getfield 15, 3)) fl_Tp_15.get rfl rfl ?_
    refine g_top (w := nI (t + k)) (e29) ?_
    refine g_dup_x1 (by decide +kernel : decode prog_7_method_2_code 28 = .ok (.dup_x1, 1)) rfl rfl ?_
    refine g_iconst (v := nI 1) (by decide +kernel : decode prog_7_method_2_code 29 = .ok (.iconst 1, 1)) (by decide) ?_
    refine g_iaddN (by decide +kernel : decode prog_7_method_2_code 30 = .ok (.iadd, 1)) ?_
    refine g_putI (by decide +kernel : decode prog_7_method_2_code 31 = .ok (.putfield 15, 3)) fl_Tp_15 rfl rfl ?_
    refine g_lload_n (by decide +kernel : decode prog_7_method_2_code 34 = .ok (.lload_n 1, 1)) rfl ?_
    refine g_bipush (v := nI 8) (by decide +kernel : decode prog_7_method_2_code 35 = .ok (.bipush 8, 2)) (by decide) ?_
    refine g_iload (by decide +kernel : decode prog_7_method_2_code 37 = .ok (.iload 4, 2)) rfl ?_
    refine g_imulN (by decide +kernel : decode prog_7_method_2_code 39 = .ok (.imul, 1)) ?_
    refine g_lushr (by decide +kernel : decode prog_7_method_2_code 40 = .ok (.lushr, 1)) ?_
    refine g_l2i (by decide +kernel : decode prog_7_method_2_code 41 = .ok (.l2i, 1)) ?_
    refine g_i2b (by decide +kernel : decode prog_7_method_2_code 42 = .ok (.i2b, 1)) ?_
    refine g_bastore (a := t + k) (by decide +kernel : decode prog_7_method_2_code 43 = .ok (.bastore, 1)) rfl rfl (by omega) (by decide) ?_
    refine g_iincN (n := 1) (L' := [some (.ref 29), some (.long x), none, some (.int (nI n)), some (.int (nI (k + 1)))]) (by decide +kernel : decode prog_7_method_2_code 44 = .ok (.iinc 4 1, 3)) rfl (by decide) (Nat.le_of_ble_eq_true rfl) rfl ?_
    refine g_goto (tgt := 3) (by decide +kernel : decode prog_7_method_2_code 47 = .ok (.goto (-44), 3)) (by decide) ?_
    exact ih (k + 1) _ (h.fd (by omega) _ (by8_v x (by omega))) (by omega) (by omega) hR
set_option maxRecDepth 20000 in
theorem c_append {σ τ : Store} {f : Row} (h : RX σ τ f) {x : Int64} {t n : Nat} (et : τ 0 6 = nI t) (hn : t + n ≤ 200) (hn8 : n ≤ 8) : Ct ΛC mt_Tp_append 0 [.ref 29, .long x, .int (nI n)] σ (PV (fun σ' => RX σ' (fdS τ x t n) f)) := by
  refine Ct.of (by decide) (Nat.le_of_ble_eq_true rfl) (fun X hR => ?_)
  show G (ΛC, mt_Tp_append, 0) X σ [some (.ref 29), some (.long x), none, some (.int (nI n)), none] [] 0
  refine g_iconst (v := nI 0) (by decide +kernel : decode prog_7_method_2_code 0 = .ok (.iconst 0, 1)) (by decide) ?_
  refine g_istore (L' := [some (.ref 29), some (.long x), none, some (.int (nI n)), some (.int (nI 0))]) (by decide +kernel : decode prog_7_method_2_code 1 = .ok (.istore 4, 2)) (Nat.le_of_ble_eq_true rfl) rfl ?_
  exact c_append_lp hn hn8 (n + 1) 0 σ (by rw [fdS_0 et]; exact h) (by omega) (by omega) hR
set_option maxRecDepth 20000 in
theorem k_feed {σ τ : Store} {f : Row} (h : RX σ τ f) (x : Int64) (y : Int32) {t : Nat} (et : τ 0 6 = nI t) (ht : t ≤ 200) : Ct ΛC mt_LS_feed 1 [.ref 0, .long x, .int y] σ (cP (feedS τ t x y) (feedV t y) f) := by
  refine Ct.of (by decide) (Nat.le_of_ble_eq_true rfl) (fun X hR => ?_)
  show G (ΛC, mt_LS_feed, 1) X σ [some (.ref 0), some (.long x), none, some (.int y)] [] 0
  have hn8 := h.n8
  have e29 := h.t29 et ht
  refine g_iload_n (by decide +kernel : decode prog_1_method_8_code 0 = .ok (.iload_n 3, 1)) rfl ?_
  refine g_iconst (v := nI 1) (by decide +kernel : decode prog_1_method_8_code 1 = .ok (.iconst 1, 1)) (by decide) ?_
  refine g_bipush (v := nI 8) (by decide +kernel : decode prog_1_method_8_code 2 = .ok (.bipush 8, 2)) (by decide) ?_
  refine g_callSI [.int y, .int (nI 1), .int (nI 8)] (by decide +kernel : decode prog_1_method_8_code 4 = .ok (.invokestatic 62, 3)) lk_LS_62 (k_within _ y 1 8) rfl rfl (Nat.le_of_ble_eq_true rfl) (Nat.le_of_ble_eq_true rfl) (fun r4 s4 h4 => ?_)
  rcases h4 with ⟨e4, ⟨rfl, n, ha4, hb4, rfl⟩ | ⟨rfl, n4⟩⟩
  · have e4 := e4.symm; subst e4
    refine g_if_neN (tgt := 12) (by decide +kernel : decode prog_1_method_8_code 7 = .ok (.ifCond .ne 5, 3)) (by decide) (by decide) (fun _ => ?_) (fun h => False.elim (by revert h; decide))
    refine g_aload_n (by decide +kernel : decode prog_1_method_8_code 12 = .ok (.aload_n 0, 1)) rfl ?_
    refine g_getR (by decide +kernel : decode prog_1_method_8_code 13 = .ok (.getfield 30, 3)) fl_LS_30 rfl rfl ?_
    refine g_getI (by decide +kernel : decode prog_1_method_8_code 16 = .ok (.getfield 66, 3)) fl_LS_66.get rfl rfl ?_
    refine g_top (w := nI t) (e29) ?_
    refine g_iload_n (by decide +kernel : decode prog_1_method_8_code 19 = .ok (.iload_n 3, 1)) rfl ?_
    refine g_iaddN (by decide +kernel : decode prog_1_method_8_code 20 = .ok (.iadd, 1)) ?_
    refine g_sipush (v := nI 200) (by decide +kernel : decode prog_1_method_8_code 21 = .ok (.sipush 200, 3)) (by decide) ?_
    refine g_icmp_leN (tgt := 30) (by decide +kernel : decode prog_1_method_8_code 24 = .ok (.if_icmp .le 6, 3)) (by decide) (by omega) (by decide) (fun h24 => ?_) (fun h24 => ?_)
    · refine g_aload_n (by decide +kernel : decode prog_1_method_8_code 30 = .ok (.aload_n 0, 1)) rfl ?_
      refine g_getR (by decide +kernel : decode prog_1_method_8_code 31 = .ok (.getfield 30, 3)) fl_LS_30 rfl rfl ?_
      refine g_lload_n (by decide +kernel : decode prog_1_method_8_code 34 = .ok (.lload_n 1, 1)) rfl ?_
      refine g_iload_n (by decide +kernel : decode prog_1_method_8_code 35 = .ok (.iload_n 3, 1)) rfl ?_
      refine g_callVV [.long x, .int (nI n)] (by decide +kernel : decode prog_1_method_8_code 36 = .ok (.invokevirtual 70, 3)) lk_LS_70 (c_append h (x := x) (t := t) (n := n) et (by omega) (by omega)) rfl rfl rfl rfl (Nat.le_of_ble_eq_true rfl) (Nat.le_of_ble_eq_true rfl) (fun s36 h36 => ?_)
      have g36 := h36
      have e36 : s36 29 1 = nI (t + n) := g36.t29 rfl (by omega)
      refine g_aload_n (by decide +kernel : decode prog_1_method_8_code 39 = .ok (.aload_n 0, 1)) rfl ?_
      refine g_getR (by decide +kernel : decode prog_1_method_8_code 40 = .ok (.getfield 30, 3)) fl_LS_30 rfl rfl ?_
      refine g_getI (by decide +kernel : decode prog_1_method_8_code 43 = .ok (.getfield 66, 3)) fl_LS_66.get rfl rfl ?_
      refine g_top (w := nI (t + n)) (e36) ?_
      exact g_iret hR (by decide +kernel : decode prog_1_method_8_code 46 = .ok (.ireturn, 1)) rfl ⟨_, rfl, ⟨by simp only [feedV, rg_of ha4 hb4, if_pos h24], by simp only [feedS, rg_of ha4 hb4, if_pos h24]; exact g36⟩⟩
    · refine g_bipush (v := (-2)) (by decide +kernel : decode prog_1_method_8_code 27 = .ok (.bipush (-2), 2)) (by decide) ?_
      exact g_iret hR (by decide +kernel : decode prog_1_method_8_code 29 = .ok (.ireturn, 1)) rfl ⟨_, rfl, ⟨by simp only [feedV, rg_of ha4 hb4, if_neg h24], by simp only [feedS, rg_of ha4 hb4, if_neg h24]; exact h⟩⟩
  · have e4 := e4.symm; subst e4
    refine g_if_neN (tgt := 12) (by decide +kernel : decode prog_1_method_8_code 7 = .ok (.ifCond .ne 5, 3)) (by decide) (by decide) (fun h => False.elim (by revert h; decide)) (fun _ => ?_)
    refine g_iconst (v := (-1)) (by decide +kernel : decode prog_1_method_8_code 10 = .ok (.iconst (-1), 1)) (by decide) ?_
    exact g_iret hR (by decide +kernel : decode prog_1_method_8_code 11 = .ok (.ireturn, 1)) rfl ⟨_, rfl, ⟨by simp only [feedV, rg_none n4], by simp only [feedS, rg_none n4]; exact h⟩⟩
