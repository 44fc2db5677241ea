/-! THE REFERENCE: what shelves hold, taken, act, trace -/
theorem pz_e {f : Row} (hI : Inv f) {x : Int32} {j : Nat} (h : j < nn f) (e : x = nI j) : pz f x = some j := by rw [e]; exact pz_of hI h
/-- 0 nothing, 1 one of people, 2 a row -/
def hd (σ : Store) (f : Row) (h : Nat) : Nat := if σ 11 h = nI 1 then (match pz f (σ 12 h) with
  | none => 0
  | some _ => 1) else tn (σ 11 h)
theorem hd_1 {σ : Store} {f : Row} (hI : Inv f) {h j : Nat} (e : σ 11 h = nI 1) (hj : j < nn f) (e2 : σ 12 h = nI j) : hd σ f h = 1 := by
  unfold hd; rw [if_pos e, pz_e hI hj e2]
theorem hd_n {σ : Store} {f : Row} (hI : Inv f) {h : Nat} (e : σ 11 h = nI 1) (hn : ¬ ∃ j, j < nn f ∧ σ 12 h = nI j) : hd σ f h = 0 := by
  unfold hd; rw [if_pos e, pz_none hI hn]
theorem hd_m {σ : Store} {f : Row} {h m : Nat} (e : σ 11 h = nI m) (hm : m = 0 ∨ m = 2) : hd σ f h = m := by
  unfold hd
  rcases hm with rfl | rfl
  · rw [if_neg (by rw [e]; decide), e]; rfl
  · rw [if_neg (by rw [e]; decide), e]; rfl
def und (own kind : Nat) : Prop := kind = 0 ∨ own = kind ∨ kind = 1 ∧ own = 3 ∨ kind = 2 ∧ own = 4
set_option maxRecDepth 20000 in
theorem m_isUnder (Λ : Lay) (σ : Store) (a c : Nat) (ha : a < 2 ^ 31) (hc : c < 2 ^ 31) : Ct Λ mt_Md_isUnder 0 [.int (nI a), .int (nI c)] σ (PB σ (und a c)) := by
  refine Ct.of (by decide) (Nat.le_of_ble_eq_true rfl) (fun X hR => ?_)
  show G (Λ, mt_Md_isUnder, 0) X σ [some (.int (nI a)), some (.int (nI c))] [] 0
  refine g_iload_n (by decide +kernel : decode prog_10_method_12_code 0 = .ok (.iload_n 1, 1)) rfl ?_
  refine g_if_eqN (tgt := 29) (by decide +kernel : decode prog_10_method_12_code 1 = .ok (.ifCond .eq 28, 3)) (by decide) (by omega) (fun h1 => ?_) (fun h1 => ?_)
  · refine g_iconst (v := nI 1) (by decide +kernel : decode prog_10_method_12_code 29 = .ok (.iconst 1, 1)) (by decide) ?_
    refine g_goto (tgt := 34) (by decide +kernel : decode prog_10_method_12_code 30 = .ok (.goto 4, 3)) (by decide) ?_
    exact g_zret hR (by decide +kernel : decode prog_10_method_12_code 34 = .ok (.ireturn, 1)) rfl (by decide) ⟨_, rfl, ⟨rfl, Or.inl ⟨rfl, by unfold und; omega⟩⟩⟩
  · refine g_iload_n (by decide +kernel : decode prog_10_method_12_code 4 = .ok (.iload_n 0, 1)) rfl ?_
    refine g_iload_n (by decide +kernel : decode prog_10_method_12_code 5 = .ok (.iload_n 1, 1)) rfl ?_
    refine g_icmp_eqN (tgt := 29) (by decide +kernel : decode prog_10_method_12_code 6 = .ok (.if_icmp .eq 23, 3)) (by decide) (by omega) (by omega) (fun h6 => ?_) (fun h6 => ?_)
    · refine g_iconst (v := nI 1) (by decide +kernel : decode prog_10_method_12_code 29 = .ok (.iconst 1, 1)) (by decide) ?_
      refine g_goto (tgt := 34) (by decide +kernel : decode prog_10_method_12_code 30 = .ok (.goto 4, 3)) (by decide) ?_
      exact g_zret hR (by decide +kernel : decode prog_10_method_12_code 34 = .ok (.ireturn, 1)) rfl (by decide) ⟨_, rfl, ⟨rfl, Or.inl ⟨rfl, by unfold und; omega⟩⟩⟩
    · refine g_iload_n (by decide +kernel : decode prog_10_method_12_code 9 = .ok (.iload_n 1, 1)) rfl ?_
      refine g_iconst (v := nI 1) (by decide +kernel : decode prog_10_method_12_code 10 = .ok (.iconst 1, 1)) (by decide) ?_
      refine g_icmp_neN (tgt := 19) (by decide +kernel : decode prog_10_method_12_code 11 = .ok (.if_icmp .ne 8, 3)) (by decide) (by omega) (by decide) (fun h11 => ?_) (fun h11 => ?_)
      · refine g_iload_n (by decide +kernel : decode prog_10_method_12_code 19 = .ok (.iload_n 1, 1)) rfl ?_
        refine g_iconst (v := nI 2) (by decide +kernel : decode prog_10_method_12_code 20 = .ok (.iconst 2, 1)) (by decide) ?_
        refine g_icmp_neN (tgt := 33) (by decide +kernel : decode prog_10_method_12_code 21 = .ok (.if_icmp .ne 12, 3)) (by decide) (by omega) (by decide) (fun h21 => ?_) (fun h21 => ?_)
        · refine g_iconst (v := nI 0) (by decide +kernel : decode prog_10_method_12_code 33 = .ok (.iconst 0, 1)) (by decide) ?_
          exact g_zret hR (by decide +kernel : decode prog_10_method_12_code 34 = .ok (.ireturn, 1)) rfl (by decide) ⟨_, rfl, ⟨rfl, Or.inr ⟨rfl, by unfold und; omega⟩⟩⟩
        · refine g_iload_n (by decide +kernel : decode prog_10_method_12_code 24 = .ok (.iload_n 0, 1)) rfl ?_
          refine g_iconst (v := nI 4) (by decide +kernel : decode prog_10_method_12_code 25 = .ok (.iconst 4, 1)) (by decide) ?_
          refine g_icmp_neN (tgt := 33) (by decide +kernel : decode prog_10_method_12_code 26 = .ok (.if_icmp .ne 7, 3)) (by decide) (by omega) (by decide) (fun h26 => ?_) (fun h26 => ?_)
          · refine g_iconst (v := nI 0) (by decide +kernel : decode prog_10_method_12_code 33 = .ok (.iconst 0, 1)) (by decide) ?_
            exact g_zret hR (by decide +kernel : decode prog_10_method_12_code 34 = .ok (.ireturn, 1)) rfl (by decide) ⟨_, rfl, ⟨rfl, Or.inr ⟨rfl, by unfold und; omega⟩⟩⟩
          · refine g_iconst (v := nI 1) (by decide +kernel : decode prog_10_method_12_code 29 = .ok (.iconst 1, 1)) (by decide) ?_
            refine g_goto (tgt := 34) (by decide +kernel : decode prog_10_method_12_code 30 = .ok (.goto 4, 3)) (by decide) ?_
            exact g_zret hR (by decide +kernel : decode prog_10_method_12_code 34 = .ok (.ireturn, 1)) rfl (by decide) ⟨_, rfl, ⟨rfl, Or.inl ⟨rfl, by unfold und; omega⟩⟩⟩
      · refine g_iload_n (by decide +kernel : decode prog_10_method_12_code 14 = .ok (.iload_n 0, 1)) rfl ?_
        refine g_iconst (v := nI 3) (by decide +kernel : decode prog_10_method_12_code 15 = .ok (.iconst 3, 1)) (by decide) ?_
        refine g_icmp_eqN (tgt := 29) (by decide +kernel : decode prog_10_method_12_code 16 = .ok (.if_icmp .eq 13, 3)) (by decide) (by omega) (by decide) (fun h16 => ?_) (fun h16 => ?_)
        · refine g_iconst (v := nI 1) (by decide +kernel : decode prog_10_method_12_code 29 = .ok (.iconst 1, 1)) (by decide) ?_
          refine g_goto (tgt := 34) (by decide +kernel : decode prog_10_method_12_code 30 = .ok (.goto 4, 3)) (by decide) ?_
          exact g_zret hR (by decide +kernel : decode prog_10_method_12_code 34 = .ok (.ireturn, 1)) rfl (by decide) ⟨_, rfl, ⟨rfl, Or.inl ⟨rfl, by unfold und; omega⟩⟩⟩
        · refine g_iload_n (by decide +kernel : decode prog_10_method_12_code 19 = .ok (.iload_n 1, 1)) rfl ?_
          refine g_iconst (v := nI 2) (by decide +kernel : decode prog_10_method_12_code 20 = .ok (.iconst 2, 1)) (by decide) ?_
          refine g_icmp_neN (tgt := 33) (by decide +kernel : decode prog_10_method_12_code 21 = .ok (.if_icmp .ne 12, 3)) (by decide) (by omega) (by decide) (fun h21 => ?_) (fun h21 => ?_)
          · refine g_iconst (v := nI 0) (by decide +kernel : decode prog_10_method_12_code 33 = .ok (.iconst 0, 1)) (by decide) ?_
            exact g_zret hR (by decide +kernel : decode prog_10_method_12_code 34 = .ok (.ireturn, 1)) rfl (by decide) ⟨_, rfl, ⟨rfl, Or.inr ⟨rfl, by unfold und; omega⟩⟩⟩
          · refine g_iload_n (by decide +kernel : decode prog_10_method_12_code 24 = .ok (.iload_n 0, 1)) rfl ?_
            refine g_iconst (v := nI 4) (by decide +kernel : decode prog_10_method_12_code 25 = .ok (.iconst 4, 1)) (by decide) ?_
            refine g_icmp_neN (tgt := 33) (by decide +kernel : decode prog_10_method_12_code 26 = .ok (.if_icmp .ne 7, 3)) (by decide) (by omega) (by decide) (fun h26 => ?_) (fun h26 => ?_)
            · refine g_iconst (v := nI 0) (by decide +kernel : decode prog_10_method_12_code 33 = .ok (.iconst 0, 1)) (by decide) ?_
              exact g_zret hR (by decide +kernel : decode prog_10_method_12_code 34 = .ok (.ireturn, 1)) rfl (by decide) ⟨_, rfl, ⟨rfl, Or.inr ⟨rfl, by unfold und; omega⟩⟩⟩
            · refine g_iconst (v := nI 1) (by decide +kernel : decode prog_10_method_12_code 29 = .ok (.iconst 1, 1)) (by decide) ?_
              refine g_goto (tgt := 34) (by decide +kernel : decode prog_10_method_12_code 30 = .ok (.goto 4, 3)) (by decide) ?_
              exact g_zret hR (by decide +kernel : decode prog_10_method_12_code 34 = .ok (.ireturn, 1)) rfl (by decide) ⟨_, rfl, ⟨rfl, Or.inl ⟨rfl, by unfold und; omega⟩⟩⟩
set_option maxRecDepth 20000 in
theorem m_heldOn (σ : Store) (f b : Row) (hI : Inv f) (hV : SvI σ) (h : Nat) (hh : h < 4) : Ct ΛM mt_Md_heldOn 1 [.ref 0, .int (nI h)] (mS σ f b) (PF (nI (hd σ f h)) (mS σ f b)) := by
  refine Ct.of (by decide) (Nat.le_of_ble_eq_true rfl) (fun X hR => ?_)
  show G (ΛM, mt_Md_heldOn, 1) X (mS σ f b) [some (.ref 0), some (.int (nI h))] [] 0
  have hn8 := hI.n.2
  obtain ⟨m, hm, e11⟩ := hV h hh
  refine g_aload_n (by decide +kernel : decode prog_10_method_93_code 0 = .ok (.aload_n 0, 1)) rfl ?_
  refine g_getR (by decide +kernel : decode prog_10_method_93_code 1 = .ok (.getfield 40, 3)) fl_Md_40 rfl rfl ?_
  refine g_iload_n (by decide +kernel : decode prog_10_method_93_code 4 = .ok (.iload_n 1, 1)) rfl ?_
  refine g_iaload (a := h) (by decide +kernel : decode prog_10_method_93_code 5 = .ok (.iaload, 1)) rfl rfl (by omega) (by decide) ?_
  refine g_top (w := nI m) (e11) ?_
  refine g_iconst (v := nI 1) (by decide +kernel : decode prog_10_method_93_code 6 = .ok (.iconst 1, 1)) (by decide) ?_
  refine g_icmp_neN (tgt := 27) (by decide +kernel : decode prog_10_method_93_code 7 = .ok (.if_icmp .ne 20, 3)) (by decide) (by omega) (by decide) (fun h7 => ?_) (fun h7 => ?_)
  · refine g_aload_n (by decide +kernel : decode prog_10_method_93_code 27 = .ok (.aload_n 0, 1)) rfl ?_
    refine g_getR (by decide +kernel : decode prog_10_method_93_code 28 = .ok (.getfield 40, 3)) fl_Md_40 rfl rfl ?_
    refine g_iload_n (by decide +kernel : decode prog_10_method_93_code 31 = .ok (.iload_n 1, 1)) rfl ?_
    refine g_iaload (a := h) (by decide +kernel : decode prog_10_method_93_code 32 = .ok (.iaload, 1)) rfl rfl (by omega) (by decide) ?_
    refine g_top (w := nI m) (e11) ?_
    exact g_iret hR (by decide +kernel : decode prog_10_method_93_code 33 = .ok (.ireturn, 1)) rfl ⟨_, rfl, ⟨by rw [hd_m e11 (by omega)], rfl⟩⟩
  · refine g_aload_n (by decide +kernel : decode prog_10_method_93_code 10 = .ok (.aload_n 0, 1)) rfl ?_
    refine g_aload_n (by decide +kernel : decode prog_10_method_93_code 11 = .ok (.aload_n 0, 1)) rfl ?_
    refine g_getR (by decide +kernel : decode prog_10_method_93_code 12 = .ok (.getfield 43, 3)) fl_Md_43 rfl rfl ?_
    refine g_iload_n (by decide +kernel : decode prog_10_method_93_code 15 = .ok (.iload_n 1, 1)) rfl ?_
    refine g_iaload (a := h) (by decide +kernel : decode prog_10_method_93_code 16 = .ok (.iaload, 1)) rfl rfl (by omega) (by decide) ?_
    refine g_top (w := σ 12 h) (rfl) ?_
    refine g_callVI [.int (σ 12 h)] (by decide +kernel : decode prog_10_method_93_code 17 = .ok (.invokevirtual 172, 3)) lk_Md_172 (m_isOne (mS σ f b) (σ 12 h) hI.n.1 (by omega)) rfl rfl rfl rfl (Nat.le_of_ble_eq_true rfl) (Nat.le_of_ble_eq_true rfl) (fun r17 s17 h17 => ?_)
    rcases h17 with ⟨rfl, ⟨rfl, q17⟩ | ⟨rfl, q17⟩⟩
    · refine g_if_neN (tgt := 27) (by decide +kernel : decode prog_10_method_93_code 20 = .ok (.ifCond .ne 7, 3)) (by decide) (by decide) (fun _ => ?_) (fun h => False.elim (by revert h; decide))
      refine g_aload_n (by decide +kernel : decode prog_10_method_93_code 27 = .ok (.aload_n 0, 1)) rfl ?_
      refine g_getR (by decide +kernel : decode prog_10_method_93_code 28 = .ok (.getfield 40, 3)) fl_Md_40 rfl rfl ?_
      refine g_iload_n (by decide +kernel : decode prog_10_method_93_code 31 = .ok (.iload_n 1, 1)) rfl ?_
      refine g_iaload (a := h) (by decide +kernel : decode prog_10_method_93_code 32 = .ok (.iaload, 1)) rfl rfl (by omega) (by decide) ?_
      refine g_top (w := nI m) (e11) ?_
      exact g_iret hR (by decide +kernel : decode prog_10_method_93_code 33 = .ok (.ireturn, 1)) rfl ⟨_, rfl, ⟨by obtain ⟨j, hj, e12⟩ := q17; rw [hd_1 hI (h7 ▸ e11) hj e12, h7], rfl⟩⟩
    · refine g_if_neN (tgt := 27) (by decide +kernel : decode prog_10_method_93_code 20 = .ok (.ifCond .ne 7, 3)) (by decide) (by decide) (fun h => False.elim (by revert h; decide)) (fun _ => ?_)
      refine g_iconst (v := nI 0) (by decide +kernel : decode prog_10_method_93_code 23 = .ok (.iconst 0, 1)) (by decide) ?_
      refine g_goto (tgt := 33) (by decide +kernel : decode prog_10_method_93_code 24 = .ok (.goto 9, 3)) (by decide) ?_
      exact g_iret hR (by decide +kernel : decode prog_10_method_93_code 33 = .ok (.ireturn, 1)) rfl ⟨_, rfl, ⟨by rw [hd_n hI (h7 ▸ e11) q17], rfl⟩⟩
theorem und_dec (a c : Nat) : und a c ∨ ¬ und a c := Classical.em _
noncomputable def takenV (σ : Store) (f : Row) (x y : Int32) : Int32 := match rg 0 3 x with
  | none => -1
  | some h => match rg 0 13 y with
    | none => -1
    | some a => if 6 ≤ a ∧ a ≤ 9 then -1 else if hd σ f h = 0 then -11 else if a < 10 then (if hd σ f h = 1 ∧ (a = 0 ∨ tn (f (19 + 6 * tn (σ 12 h) + 0)) = a ∨ a = 1 ∧ tn (f (19 + 6 * tn (σ 12 h) + 0)) = 3 ∨ a = 2 ∧ tn (f (19 + 6 * tn (σ 12 h) + 0)) = 4) then σ 12 h else -13) else (if hd σ f h = 2 ∧ σ 12 h = nI (a - 10) then σ 13 h else -13)
set_option maxRecDepth 20000 in
theorem q_taken (σ : Store) (f b : Row) (hI : Inv f) (hV : SvI σ) (x y : Int32) : Ct ΛM mt_Md_taken 2 [.ref 0, .int x, .int y] (mS σ f b) (PF (takenV σ f x y) (mS σ f b)) := by
  refine Ct.of (by decide) (Nat.le_of_ble_eq_true rfl) (fun X hR => ?_)
  show G (ΛM, mt_Md_taken, 2) X (mS σ f b) [some (.ref 0), some (.int x), some (.int y), none] [] 0
  have hn8 := hI.n.2
  refine g_iload_n (by decide +kernel : decode prog_10_method_94_code 0 = .ok (.iload_n 1, 1)) rfl ?_
  refine g_callSI [.int x] (by decide +kernel : decode prog_10_method_94_code 1 = .ok (.invokestatic 269, 3)) lk_Md_269 (m_isShelf ΛM (mS σ f b) x) rfl rfl (Nat.le_of_ble_eq_true rfl) (Nat.le_of_ble_eq_true rfl) (fun r1 s1 h1 => ?_)
  rcases h1 with ⟨rfl, ⟨rfl, h, ha1, hb1, rfl⟩ | ⟨rfl, n1⟩⟩
  · refine g_if_eqN (tgt := 33) (by decide +kernel : decode prog_10_method_94_code 4 = .ok (.ifCond .eq 29, 3)) (by decide) (by decide) (fun h => False.elim (by revert h; decide)) (fun _ => ?_)
    refine g_iload_n (by decide +kernel : decode prog_10_method_94_code 7 = .ok (.iload_n 2, 1)) rfl ?_
    refine g_i2l (by decide +kernel : decode prog_10_method_94_code 8 = .ok (.i2l, 1)) ?_
    refine g_lconst (v := lN 0) (by decide +kernel : decode prog_10_method_94_code 9 = .ok (.lconst 0, 1)) (by decide) ?_
    refine g_ldc2 (v := lN 13) (by decide +kernel : decode prog_10_method_94_code 10 = .ok (.ldc2_w 272, 3)) kc_Md_272 ?_
    refine g_callSI [.long (Int32.toInt64 y), .long (lN 0), .long (lN 13)] (by decide +kernel : decode prog_10_method_94_code 13 = .ok (.invokestatic 57, 3)) lk_Md_57 (m_isInN ΛM (mS σ f b) y 0 13) rfl rfl (Nat.le_of_ble_eq_true rfl) (Nat.le_of_ble_eq_true rfl) (fun r13 s13 h13 => ?_)
    rcases h13 with ⟨rfl, ⟨rfl, a, ha13, hb13, rfl⟩ | ⟨rfl, n13⟩⟩
    · refine g_if_eqN (tgt := 33) (by decide +kernel : decode prog_10_method_94_code 16 = .ok (.ifCond .eq 17, 3)) (by decide) (by decide) (fun h => False.elim (by revert h; decide)) (fun _ => ?_)
      refine g_iload_n (by decide +kernel : decode prog_10_method_94_code 19 = .ok (.iload_n 2, 1)) rfl ?_
      refine g_i2lN (by decide +kernel : decode prog_10_method_94_code 20 = .ok (.i2l, 1)) (by first | omega | (have h9 : tn (f (19 + 6 * j + 0)) ≤ 5 := (hI.p hj 0).2; omega)) ?_
      refine g_ldc2 (v := lN 6) (by decide +kernel : decode prog_10_method_94_code 21 = .ok (.ldc2_w 274, 3)) kc_Md_274 ?_
      refine g_ldc2 (v := lN 9) (by decide +kernel : decode prog_10_method_94_code 24 = .ok (.ldc2_w 164, 3)) kc_Md_164 ?_
      refine g_callSI [.long (lN a), .long (lN 6), .long (lN 9)] (by decide +kernel : decode prog_10_method_94_code 27 = .ok (.invokestatic 57, 3)) lk_Md_57 (m_isInK ΛM (mS σ f b) a 6 9 (by omega) (by decide) (by decide)) rfl rfl (Nat.le_of_ble_eq_true rfl) (Nat.le_of_ble_eq_true rfl) (fun r27 s27 h27 => ?_)
      rcases h27 with ⟨rfl, ⟨rfl, q27⟩ | ⟨rfl, q27⟩⟩
      · refine g_if_eqN (tgt := 35) (by decide +kernel : decode prog_10_method_94_code 30 = .ok (.ifCond .eq 5, 3)) (by decide) (by decide) (fun h => False.elim (by revert h; decide)) (fun _ => ?_)
        refine g_iconst (v := (-1)) (by decide +kernel : decode prog_10_method_94_code 33 = .ok (.iconst (-1), 1)) (by decide) ?_
        exact g_iret hR (by decide +kernel : decode prog_10_method_94_code 34 = .ok (.ireturn, 1)) rfl ⟨_, rfl, ⟨by simp only [takenV, rg_of ha1 hb1, rg_of ha13 hb13, if_pos q27], rfl⟩⟩
      · refine g_if_eqN (tgt := 35) (by decide +kernel : decode prog_10_method_94_code 30 = .ok (.ifCond .eq 5, 3)) (by decide) (by decide) (fun _ => ?_) (fun h => False.elim (by revert h; decide))
        obtain ⟨m, hm, e11⟩ := hV h (by omega)
        have hm2 : m ≤ 2 := hm
        rcases (show m = 0 ∨ m = 1 ∨ m = 2 by omega) with rfl | rfl | rfl
        · have ehd : hd σ f h = 0 := hd_m e11 (Or.inl rfl)
          refine g_aload_n (by decide +kernel : decode prog_10_method_94_code 35 = .ok (.aload_n 0, 1)) rfl ?_
          refine g_iload_n (by decide +kernel : decode prog_10_method_94_code 36 = .ok (.iload_n 1, 1)) rfl ?_
          refine g_callVI [.int (nI h)] (by decide +kernel : decode prog_10_method_94_code 37 = .ok (.invokevirtual 276, 3)) lk_Md_276 (m_heldOn σ f b hI hV h (by omega)) rfl rfl rfl rfl (Nat.le_of_ble_eq_true rfl) (Nat.le_of_ble_eq_true rfl) (fun r37 s37 h37 => ?_)
          obtain ⟨rfl, rfl⟩ := h37
          refine g_top (w := nI 0) (by rw [ehd]) ?_
          refine g_istore_n (L' := [some (.ref 0), some (.int (nI h)), some (.int (nI a)), some (.int (nI 0))]) (by decide +kernel : decode prog_10_method_94_code 40 = .ok (.istore_n 3, 1)) (Nat.le_of_ble_eq_true rfl) rfl ?_
          refine g_iload_n (by decide +kernel : decode prog_10_method_94_code 41 = .ok (.iload_n 3, 1)) rfl ?_
          refine g_if_neN (tgt := 48) (by decide +kernel : decode prog_10_method_94_code 42 = .ok (.ifCond .ne 6, 3)) (by decide) (by decide) (fun h => False.elim (by revert h; decide)) (fun _ => ?_)
          refine g_bipush (v := (-11)) (by decide +kernel : decode prog_10_method_94_code 45 = .ok (.bipush (-11), 2)) (by decide) ?_
          exact g_iret hR (by decide +kernel : decode prog_10_method_94_code 47 = .ok (.ireturn, 1)) rfl ⟨_, rfl, ⟨by simp only [takenV, rg_of ha1 hb1, rg_of ha13 hb13, if_neg q27]; rw [if_pos ehd], rfl⟩⟩
        · by_cases hz : ∃ j, j < nn f ∧ σ 12 h = nI j
          · obtain ⟨j, hj, e12⟩ := hz
            have ehd : hd σ f h = 1 := hd_1 hI e11 hj e12
            have htj : tn (σ 12 h) = j := by rw [e12, tn_nI (by omega)]
            refine g_aload_n (by decide +kernel : decode prog_10_method_94_code 35 = .ok (.aload_n 0, 1)) rfl ?_
            refine g_iload_n (by decide +kernel : decode prog_10_method_94_code 36 = .ok (.iload_n 1, 1)) rfl ?_
            refine g_callVI [.int (nI h)] (by decide +kernel : decode prog_10_method_94_code 37 = .ok (.invokevirtual 276, 3)) lk_Md_276 (m_heldOn σ f b hI hV h (by omega)) rfl rfl rfl rfl (Nat.le_of_ble_eq_true rfl) (Nat.le_of_ble_eq_true rfl) (fun r37 s37 h37 => ?_)
            obtain ⟨rfl, rfl⟩ := h37
            refine g_top (w := nI 1) (by rw [ehd]) ?_
            refine g_istore_n (L' := [some (.ref 0), some (.int (nI h)), some (.int (nI a)), some (.int (nI 1))]) (by decide +kernel : decode prog_10_method_94_code 40 = .ok (.istore_n 3, 1)) (Nat.le_of_ble_eq_true rfl) rfl ?_
            refine g_iload_n (by decide +kernel : decode prog_10_method_94_code 41 = .ok (.iload_n 3, 1)) rfl ?_
            refine g_if_neN (tgt := 48) (by decide +kernel : decode prog_10_method_94_code 42 = .ok (.ifCond .ne 6, 3)) (by decide) (by decide) (fun _ => ?_) (fun h => False.elim (by revert h; decide))
            refine g_iload_n (by decide +kernel : decode prog_10_method_94_code 48 = .ok (.iload_n 2, 1)) rfl ?_
            refine g_bipush (v := nI 10) (by decide +kernel : decode prog_10_method_94_code 49 = .ok (.bipush 10, 2)) (by decide) ?_
            refine g_icmp_geN (tgt := 89) (by decide +kernel : decode prog_10_method_94_code 51 = .ok (.if_icmp .ge 38, 3)) (by decide) (by first | omega | (have h9 : tn (f (19 + 6 * j + 0)) ≤ 5 := (hI.p hj 0).2; omega)) (by decide) (fun h51 => ?_) (fun h51 => ?_)
            · refine g_iload_n (by decide +kernel : decode prog_10_method_94_code 89 = .ok (.iload_n 3, 1)) rfl ?_
              refine g_iconst (v := nI 2) (by decide +kernel : decode prog_10_method_94_code 90 = .ok (.iconst 2, 1)) (by decide) ?_
              refine g_icmp_neN (tgt := 116) (by decide +kernel : decode prog_10_method_94_code 91 = .ok (.if_icmp .ne 25, 3)) (by decide) (by decide) (by decide) (fun _ => ?_) (fun h => False.elim (by revert h; decide))
              refine g_bipush (v := (-13)) (by decide +kernel : decode prog_10_method_94_code 116 = .ok (.bipush (-13), 2)) (by decide) ?_
              exact g_iret hR (by decide +kernel : decode prog_10_method_94_code 118 = .ok (.ireturn, 1)) rfl ⟨_, rfl, ⟨by simp only [takenV, rg_of ha1 hb1, rg_of ha13 hb13, if_neg q27]; rw [if_neg (by rw [ehd]; decide), if_neg (by omega), if_neg (fun z => absurd (ehd.symm.trans z.1) (by decide))], rfl⟩⟩
            · refine g_iload_n (by decide +kernel : decode prog_10_method_94_code 54 = .ok (.iload_n 3, 1)) rfl ?_
              refine g_iconst (v := nI 1) (by decide +kernel : decode prog_10_method_94_code 55 = .ok (.iconst 1, 1)) (by decide) ?_
              refine g_icmp_neN (tgt := 86) (by decide +kernel : decode prog_10_method_94_code 56 = .ok (.if_icmp .ne 30, 3)) (by decide) (by decide) (by decide) (fun h => False.elim (by revert h; decide)) (fun _ => ?_)
              refine g_aload_n (by decide +kernel : decode prog_10_method_94_code 59 = .ok (.aload_n 0, 1)) rfl ?_
              refine g_aload_n (by decide +kernel : decode prog_10_method_94_code 60 = .ok (.aload_n 0, 1)) rfl ?_
              refine g_getR (by decide +kernel : decode prog_10_method_94_code 61 = .ok (.getfield 43, 3)) fl_Md_43 rfl rfl ?_
              refine g_iload_n (by decide +kernel : decode prog_10_method_94_code 64 = .ok (.iload_n 1, 1)) rfl ?_
              refine g_iaload (a := h) (by decide +kernel : decode prog_10_method_94_code 65 = .ok (.iaload, 1)) rfl rfl (by first | omega | (have h9 : tn (f (19 + 6 * j + 0)) ≤ 5 := (hI.p hj 0).2; omega)) (by decide) ?_
              refine g_top (w := nI j) (e12) ?_
              refine g_iconst (v := nI 0) (by decide +kernel : decode prog_10_method_94_code 66 = .ok (.iconst 0, 1)) (by decide) ?_
              refine g_callVI [.int (nI j), .int (nI 0)] (by decide +kernel : decode prog_10_method_94_code 67 = .ok (.invokevirtual 169, 3)) lk_Md_169 (m_its (mS σ f b) j 0 (hI.p hj 0).1 (by omega)) rfl rfl rfl rfl (Nat.le_of_ble_eq_true rfl) (Nat.le_of_ble_eq_true rfl) (fun r67 s67 h67 => ?_)
              obtain ⟨rfl, rfl⟩ := h67
              refine g_iload_n (by decide +kernel : decode prog_10_method_94_code 70 = .ok (.iload_n 2, 1)) rfl ?_
              refine g_callSI [.int (nI (tn (f (19 + 6 * j + 0)))), .int (nI a)] (by decide +kernel : decode prog_10_method_94_code 71 = .ok (.invokestatic 279, 3)) lk_Md_279 (m_isUnder ΛM (mS σ f b) (tn (f (19 + 6 * j + 0))) a (by have h9 : tn (f (19 + 6 * j + 0)) ≤ 5 := (hI.p hj 0).2; omega) (by omega)) rfl rfl (Nat.le_of_ble_eq_true rfl) (Nat.le_of_ble_eq_true rfl) (fun r71 s71 h71 => ?_)
              rcases h71 with ⟨rfl, ⟨rfl, q71⟩ | ⟨rfl, q71⟩⟩
              · refine g_if_eqN (tgt := 86) (by decide +kernel : decode prog_10_method_94_code 74 = .ok (.ifCond .eq 12, 3)) (by decide) (by decide) (fun h => False.elim (by revert h; decide)) (fun _ => ?_)
                refine g_aload_n (by decide +kernel : decode prog_10_method_94_code 77 = .ok (.aload_n 0, 1)) rfl ?_
                refine g_getR (by decide +kernel : decode prog_10_method_94_code 78 = .ok (.getfield 43, 3)) fl_Md_43 rfl rfl ?_
                refine g_iload_n (by decide +kernel : decode prog_10_method_94_code 81 = .ok (.iload_n 1, 1)) rfl ?_
                refine g_iaload (a := h) (by decide +kernel : decode prog_10_method_94_code 82 = .ok (.iaload, 1)) rfl rfl (by first | omega | (have h9 : tn (f (19 + 6 * j + 0)) ≤ 5 := (hI.p hj 0).2; omega)) (by decide) ?_
                refine g_top (w := nI j) (e12) ?_
                refine g_goto (tgt := 88) (by decide +kernel : decode prog_10_method_94_code 83 = .ok (.goto 5, 3)) (by decide) ?_
                exact g_iret hR (by decide +kernel : decode prog_10_method_94_code 88 = .ok (.ireturn, 1)) rfl ⟨_, rfl, ⟨by simp only [takenV, rg_of ha1 hb1, rg_of ha13 hb13, if_neg q27]; rw [if_neg (by rw [ehd]; decide), if_pos (by omega), if_pos (⟨ehd, by rw [htj]; exact q71⟩)]; exact e12.symm, rfl⟩⟩
              · refine g_if_eqN (tgt := 86) (by decide +kernel : decode prog_10_method_94_code 74 = .ok (.ifCond .eq 12, 3)) (by decide) (by decide) (fun _ => ?_) (fun h => False.elim (by revert h; decide))
                refine g_bipush (v := (-13)) (by decide +kernel : decode prog_10_method_94_code 86 = .ok (.bipush (-13), 2)) (by decide) ?_
                exact g_iret hR (by decide +kernel : decode prog_10_method_94_code 88 = .ok (.ireturn, 1)) rfl ⟨_, rfl, ⟨by simp only [takenV, rg_of ha1 hb1, rg_of ha13 hb13, if_neg q27]; rw [if_neg (by rw [ehd]; decide), if_pos (by omega), if_neg (fun z => q71 (by have z2 := z.2; rw [htj] at z2; exact z2))], rfl⟩⟩
          · have ehd : hd σ f h = 0 := hd_n hI e11 hz
            refine g_aload_n (by decide +kernel : decode prog_10_method_94_code 35 = .ok (.aload_n 0, 1)) rfl ?_
            refine g_iload_n (by decide +kernel : decode prog_10_method_94_code 36 = .ok (.iload_n 1, 1)) rfl ?_
            refine g_callVI [.int (nI h)] (by decide +kernel : decode prog_10_method_94_code 37 = .ok (.invokevirtual 276, 3)) lk_Md_276 (m_heldOn σ f b hI hV h (by omega)) rfl rfl rfl rfl (Nat.le_of_ble_eq_true rfl) (Nat.le_of_ble_eq_true rfl) (fun r37 s37 h37 => ?_)
            obtain ⟨rfl, rfl⟩ := h37
            refine g_top (w := nI 0) (by rw [ehd]) ?_
            refine g_istore_n (L' := [some (.ref 0), some (.int (nI h)), some (.int (nI a)), some (.int (nI 0))]) (by decide +kernel : decode prog_10_method_94_code 40 = .ok (.istore_n 3, 1)) (Nat.le_of_ble_eq_true rfl) rfl ?_
            refine g_iload_n (by decide +kernel : decode prog_10_method_94_code 41 = .ok (.iload_n 3, 1)) rfl ?_
            refine g_if_neN (tgt := 48) (by decide +kernel : decode prog_10_method_94_code 42 = .ok (.ifCond .ne 6, 3)) (by decide) (by decide) (fun h => False.elim (by revert h; decide)) (fun _ => ?_)
            refine g_bipush (v := (-11)) (by decide +kernel : decode prog_10_method_94_code 45 = .ok (.bipush (-11), 2)) (by decide) ?_
            exact g_iret hR (by decide +kernel : decode prog_10_method_94_code 47 = .ok (.ireturn, 1)) rfl ⟨_, rfl, ⟨by simp only [takenV, rg_of ha1 hb1, rg_of ha13 hb13, if_neg q27]; rw [if_pos ehd], rfl⟩⟩
        · have ehd : hd σ f h = 2 := hd_m e11 (Or.inr rfl)
          refine g_aload_n (by decide +kernel : decode prog_10_method_94_code 35 = .ok (.aload_n 0, 1)) rfl ?_
          refine g_iload_n (by decide +kernel : decode prog_10_method_94_code 36 = .ok (.iload_n 1, 1)) rfl ?_
          refine g_callVI [.int (nI h)] (by decide +kernel : decode prog_10_method_94_code 37 = .ok (.invokevirtual 276, 3)) lk_Md_276 (m_heldOn σ f b hI hV h (by omega)) rfl rfl rfl rfl (Nat.le_of_ble_eq_true rfl) (Nat.le_of_ble_eq_true rfl) (fun r37 s37 h37 => ?_)
          obtain ⟨rfl, rfl⟩ := h37
          refine g_top (w := nI 2) (by rw [ehd]) ?_
          refine g_istore_n (L' := [some (.ref 0), some (.int (nI h)), some (.int (nI a)), some (.int (nI 2))]) (by decide +kernel : decode prog_10_method_94_code 40 = .ok (.istore_n 3, 1)) (Nat.le_of_ble_eq_true rfl) rfl ?_
          refine g_iload_n (by decide +kernel : decode prog_10_method_94_code 41 = .ok (.iload_n 3, 1)) rfl ?_
          refine g_if_neN (tgt := 48) (by decide +kernel : decode prog_10_method_94_code 42 = .ok (.ifCond .ne 6, 3)) (by decide) (by decide) (fun _ => ?_) (fun h => False.elim (by revert h; decide))
          refine g_iload_n (by decide +kernel : decode prog_10_method_94_code 48 = .ok (.iload_n 2, 1)) rfl ?_
          refine g_bipush (v := nI 10) (by decide +kernel : decode prog_10_method_94_code 49 = .ok (.bipush 10, 2)) (by decide) ?_
          refine g_icmp_geN (tgt := 89) (by decide +kernel : decode prog_10_method_94_code 51 = .ok (.if_icmp .ge 38, 3)) (by decide) (by first | omega | (have h9 : tn (f (19 + 6 * j + 0)) ≤ 5 := (hI.p hj 0).2; omega)) (by decide) (fun h51 => ?_) (fun h51 => ?_)
          · refine g_iload_n (by decide +kernel : decode prog_10_method_94_code 89 = .ok (.iload_n 3, 1)) rfl ?_
            refine g_iconst (v := nI 2) (by decide +kernel : decode prog_10_method_94_code 90 = .ok (.iconst 2, 1)) (by decide) ?_
            refine g_icmp_neN (tgt := 116) (by decide +kernel : decode prog_10_method_94_code 91 = .ok (.if_icmp .ne 25, 3)) (by decide) (by decide) (by decide) (fun h => False.elim (by revert h; decide)) (fun _ => ?_)
            refine g_aload_n (by decide +kernel : decode prog_10_method_94_code 94 = .ok (.aload_n 0, 1)) rfl ?_
            refine g_getR (by decide +kernel : decode prog_10_method_94_code 95 = .ok (.getfield 43, 3)) fl_Md_43 rfl rfl ?_
            refine g_iload_n (by decide +kernel : decode prog_10_method_94_code 98 = .ok (.iload_n 1, 1)) rfl ?_
            refine g_iaload (a := h) (by decide +kernel : decode prog_10_method_94_code 99 = .ok (.iaload, 1)) rfl rfl (by first | omega | (have h9 : tn (f (19 + 6 * j + 0)) ≤ 5 := (hI.p hj 0).2; omega)) (by decide) ?_
            refine g_top (w := σ 12 h) (rfl) ?_
            refine g_iload_n (by decide +kernel : decode prog_10_method_94_code 100 = .ok (.iload_n 2, 1)) rfl ?_
            refine g_bipush (v := nI 10) (by decide +kernel : decode prog_10_method_94_code 101 = .ok (.bipush 10, 2)) (by decide) ?_
            refine g_isubN (by decide +kernel : decode prog_10_method_94_code 103 = .ok (.isub, 1)) (by first | omega | (have h9 : tn (f (19 + 6 * j + 0)) ≤ 5 := (hI.p hj 0).2; omega)) ?_
            refine g_icmp_ne (tgt := 116) (by decide +kernel : decode prog_10_method_94_code 104 = .ok (.if_icmp .ne 12, 3)) (by decide) (fun h104 => ?_) (fun h104 => ?_)
            · refine g_bipush (v := (-13)) (by decide +kernel : decode prog_10_method_94_code 116 = .ok (.bipush (-13), 2)) (by decide) ?_
              exact g_iret hR (by decide +kernel : decode prog_10_method_94_code 118 = .ok (.ireturn, 1)) rfl ⟨_, rfl, ⟨by simp only [takenV, rg_of ha1 hb1, rg_of ha13 hb13, if_neg q27]; rw [if_neg (by rw [ehd]; decide), if_neg (by omega), if_neg (fun z => h104 z.2)], rfl⟩⟩
            · refine g_aload_n (by decide +kernel : decode prog_10_method_94_code 107 = .ok (.aload_n 0, 1)) rfl ?_
              refine g_getR (by decide +kernel : decode prog_10_method_94_code 108 = .ok (.getfield 46, 3)) fl_Md_46 rfl rfl ?_
              refine g_iload_n (by decide +kernel : decode prog_10_method_94_code 111 = .ok (.iload_n 1, 1)) rfl ?_
              refine g_iaload (a := h) (by decide +kernel : decode prog_10_method_94_code 112 = .ok (.iaload, 1)) rfl rfl (by first | omega | (have h9 : tn (f (19 + 6 * j + 0)) ≤ 5 := (hI.p hj 0).2; omega)) (by decide) ?_
              refine g_top (w := σ 13 h) (rfl) ?_
              refine g_goto (tgt := 118) (by decide +kernel : decode prog_10_method_94_code 113 = .ok (.goto 5, 3)) (by decide) ?_
              exact g_iret hR (by decide +kernel : decode prog_10_method_94_code 118 = .ok (.ireturn, 1)) rfl ⟨_, rfl, ⟨by simp only [takenV, rg_of ha1 hb1, rg_of ha13 hb13, if_neg q27]; rw [if_neg (by rw [ehd]; decide), if_neg (by omega), if_pos (⟨ehd, h104⟩)], rfl⟩⟩
          · refine g_iload_n (by decide +kernel : decode prog_10_method_94_code 54 = .ok (.iload_n 3, 1)) rfl ?_
            refine g_iconst (v := nI 1) (by decide +kernel : decode prog_10_method_94_code 55 = .ok (.iconst 1, 1)) (by decide) ?_
            refine g_icmp_neN (tgt := 86) (by decide +kernel : decode prog_10_method_94_code 56 = .ok (.if_icmp .ne 30, 3)) (by decide) (by decide) (by decide) (fun _ => ?_) (fun h => False.elim (by revert h; decide))
            refine g_bipush (v := (-13)) (by decide +kernel : decode prog_10_method_94_code 86 = .ok (.bipush (-13), 2)) (by decide) ?_
            exact g_iret hR (by decide +kernel : decode prog_10_method_94_code 88 = .ok (.ireturn, 1)) rfl ⟨_, rfl, ⟨by simp only [takenV, rg_of ha1 hb1, rg_of ha13 hb13, if_neg q27]; rw [if_neg (by rw [ehd]; decide), if_pos (by omega), if_neg (fun z => absurd (ehd.symm.trans z.1) (by decide))], rfl⟩⟩
    · refine g_if_eqN (tgt := 33) (by decide +kernel : decode prog_10_method_94_code 16 = .ok (.ifCond .eq 17, 3)) (by decide) (by decide) (fun _ => ?_) (fun h => False.elim (by revert h; decide))
      refine g_iconst (v := (-1)) (by decide +kernel : decode prog_10_method_94_code 33 = .ok (.iconst (-1), 1)) (by decide) ?_
      exact g_iret hR (by decide +kernel : decode prog_10_method_94_code 34 = .ok (.ireturn, 1)) rfl ⟨_, rfl, ⟨by simp only [takenV, rg_of ha1 hb1, rg_none n13], rfl⟩⟩
  · refine g_if_eqN (tgt := 33) (by decide +kernel : decode prog_10_method_94_code 4 = .ok (.ifCond .eq 29, 3)) (by decide) (by decide) (fun _ => ?_) (fun h => False.elim (by revert h; decide))
    refine g_iconst (v := (-1)) (by decide +kernel : decode prog_10_method_94_code 33 = .ok (.iconst (-1), 1)) (by decide) ?_
    exact g_iret hR (by decide +kernel : decode prog_10_method_94_code 34 = .ok (.ireturn, 1)) rfl ⟨_, rfl, ⟨by simp only [takenV, rg_none n1], rfl⟩⟩
def traceV (σ : Store) (x : Int32) : Int32 := match ri (tn (σ 0 22)) x with
  | none => -3
  | some i => σ 14 i
set_option maxRecDepth 20000 in
theorem q_trace (σ : Store) (f b : Row) (x : Int32) {r : Nat} (hr : σ 0 22 = nI r) (hr30 : r ≤ 30) : Ct ΛM mt_Md_trace 1 [.ref 0, .int x] (mS σ f b) (PF (traceV σ x) (mS σ f b)) := by
  refine Ct.of (by decide) (Nat.le_of_ble_eq_true rfl) (fun X hR => ?_)
  show G (ΛM, mt_Md_trace, 1) X (mS σ f b) [some (.ref 0), some (.int x)] [] 0
  have htn : tn (σ 0 22) = r := by rw [hr, tn_nI (by omega)]
  refine g_iload_n (by decide +kernel : decode prog_10_method_106_code 0 = .ok (.iload_n 1, 1)) rfl ?_
  refine g_i2l (by decide +kernel : decode prog_10_method_106_code 1 = .ok (.i2l, 1)) ?_
  refine g_lconst (v := lN 0) (by decide +kernel : decode prog_10_method_106_code 2 = .ok (.lconst 0, 1)) (by decide) ?_
  refine g_aload_n (by decide +kernel : decode prog_10_method_106_code 3 = .ok (.aload_n 0, 1)) rfl ?_
  refine g_getI (by decide +kernel : decode prog_10_method_106_code 4 = .ok (.getfield 282, 3)) fl_Md_282.get rfl rfl ?_
  refine g_top (w := nI r) (hr) ?_
  refine g_iconst (v := nI 1) (by decide +kernel : decode prog_10_method_106_code 7 = .ok (.iconst 1, 1)) (by decide) ?_
  refine g_isub (by decide +kernel : decode prog_10_method_106_code 8 = .ok (.isub, 1)) ?_
  refine g_i2l (by decide +kernel : decode prog_10_method_106_code 9 = .ok (.i2l, 1)) ?_
  refine g_callSI [.long (Int32.toInt64 x), .long (lN 0), .long (Int32.toInt64 ((nI r) - (nI 1)))] (by decide +kernel : decode prog_10_method_106_code 10 = .ok (.invokestatic 57, 3)) lk_Md_57 (m_isInR ΛM (mS σ f b) x (r := r) (by omega)) rfl rfl (Nat.le_of_ble_eq_true rfl) (Nat.le_of_ble_eq_true rfl) (fun r10 s10 h10 => ?_)
  rcases h10 with ⟨rfl, ⟨rfl, i, hi10, rfl⟩ | ⟨rfl, n10⟩⟩
  · refine g_if_eqN (tgt := 25) (by decide +kernel : decode prog_10_method_106_code 13 = .ok (.ifCond .eq 12, 3)) (by decide) (by decide) (fun h => False.elim (by revert h; decide)) (fun _ => ?_)
    refine g_aload_n (by decide +kernel : decode prog_10_method_106_code 16 = .ok (.aload_n 0, 1)) rfl ?_
    refine g_getR (by decide +kernel : decode prog_10_method_106_code 17 = .ok (.getfield 49, 3)) fl_Md_49 rfl rfl ?_
    refine g_iload_n (by decide +kernel : decode prog_10_method_106_code 20 = .ok (.iload_n 1, 1)) rfl ?_
    refine g_iaload (a := i) (by decide +kernel : decode prog_10_method_106_code 21 = .ok (.iaload, 1)) rfl rfl (by omega) (by decide) ?_
    refine g_top (w := σ 14 i) (rfl) ?_
    refine g_goto (tgt := 27) (by decide +kernel : decode prog_10_method_106_code 22 = .ok (.goto 5, 3)) (by decide) ?_
    exact g_iret hR (by decide +kernel : decode prog_10_method_106_code 27 = .ok (.ireturn, 1)) rfl ⟨_, rfl, ⟨by simp only [traceV, htn, ri_of (show r < 2 ^ 31 by omega) hi10], rfl⟩⟩
  · refine g_if_eqN (tgt := 25) (by decide +kernel : decode prog_10_method_106_code 13 = .ok (.ifCond .eq 12, 3)) (by decide) (by decide) (fun _ => ?_) (fun h => False.elim (by revert h; decide))
    refine g_bipush (v := (-3)) (by decide +kernel : decode prog_10_method_106_code 25 = .ok (.bipush (-3), 2)) (by decide) ?_
    exact g_iret hR (by decide +kernel : decode prog_10_method_106_code 27 = .ok (.ireturn, 1)) rfl ⟨_, rfl, ⟨by simp only [traceV, htn, ri_none (show r < 2 ^ 31 by omega) n10], rfl⟩⟩
theorem m_countsG (σ : Store) (B : Row) (r : Nat) (x : Int32) {k n a : Nat} (hk5 : k ≤ 5) (hk : σ 0 23 = nI k) (hn : σ 0 24 = nI n) (ha : σ 0 25 = nI a) (hr : r ≤ 5) : Ct ΛM mt_Md_counts 3 [.ref 0, .int x] (aS σ B r 0) (PF (cV k n x) (aS σ (wl B r (cC k)) (r + (cC k).length) 0)) := by
  rcases (show k = 0 ∨ k = 1 ∨ k = 2 ∨ k = 3 ∨ k = 4 ∨ k = 5 by omega) with rfl | rfl | rfl | rfl | rfl | rfl
  · exact m_counts_0 σ B r x hk hn ha (by omega)
  · exact m_counts_1 σ B r x hk hn ha (by omega)
  · exact m_counts_2 σ B r x hk hn ha (by omega)
  · exact m_counts_3 σ B r x hk hn ha (by omega)
  · exact m_counts_4 σ B r x hk hn ha (by omega)
  · exact m_counts_5 σ B r x hk hn ha (by omega)
theorem m_callsG (σ : Store) (B : Row) (r : Nat) (x : Int32) {k n a : Nat} (hk5 : k ≤ 5) (hk : σ 0 23 = nI k) (hn : σ 0 24 = nI n) (ha : σ 0 25 = nI a) (hr : r ≤ 5) : Ct ΛM mt_Md_calls 5 [.ref 0, .int x] (aS σ B r 0) (PF (lV k n a x) (aS σ (wl B r (lC k)) (r + (lC k).length) 0)) := by
  rcases (show k = 0 ∨ k = 1 ∨ k = 2 ∨ k = 3 ∨ k = 4 ∨ k = 5 by omega) with rfl | rfl | rfl | rfl | rfl | rfl
  · exact m_calls_0 σ B r x hk hn ha (by omega)
  · exact m_calls_1 σ B r x hk hn ha (by omega)
  · exact m_calls_2 σ B r x hk hn ha (by omega)
  · exact m_calls_3 σ B r x hk hn ha (by omega)
  · exact m_calls_4 σ B r x hk hn ha (by omega)
  · exact m_calls_5 σ B r x hk hn ha (by omega)
theorem m_partsG (σ : Store) (B : Row) (r : Nat) (x : Int32) {k n a : Nat} (hk5 : k ≤ 5) (hk : σ 0 23 = nI k) (hn : σ 0 24 = nI n) (ha : σ 0 25 = nI a) (hr : r ≤ 5) (hn7 : n ≤ 7) (ha9 : a ≤ 9) : Ct ΛM mt_Md_parts 4 [.ref 0, .int x] (aS σ B r 0) (PF (pV k n a x) (aS σ (wl B r (pC k n a)) (r + (pC k n a).length) (aP 2 k n a))) := by
  by_cases hna : n = a
  · have hp : ∀ k, aP 2 k n a = (if 2 = 2 ∨ 2 = 3 ∧ (k = 2 ∨ k = 4) then 1 else 0) := fun k => if_pos hna
    rcases (show k = 0 ∨ k = 1 ∨ k = 2 ∨ k = 3 ∨ k = 4 ∨ k = 5 by omega) with rfl | rfl | rfl | rfl | rfl | rfl
    · rw [hp]; exact m_parts_0e σ B r x hk hn ha (by omega) hn7 ha9 hna
    · rw [hp]; exact m_parts_1e σ B r x hk hn ha (by omega) hn7 ha9 hna
    · rw [hp]; exact m_parts_2e σ B r x hk hn ha (by omega) hn7 ha9 hna
    · rw [hp]; exact m_parts_3e σ B r x hk hn ha (by omega) hn7 ha9 hna
    · rw [hp]; exact m_parts_4e σ B r x hk hn ha (by omega) hn7 ha9 hna
    · rw [hp]; have e5 : (pC 5 n a).length = 2 := by show (nI 61 :: nI 12 :: (if n = a then [] else cC 5)).length = _; rw [if_pos hna]; rfl
      rw [e5]; exact m_parts_5e σ B r x hk hn ha (by omega) hn7 ha9 hna
  · have hp : ∀ k, aP 2 k n a = 0 := fun k => if_neg hna
    rcases (show k = 0 ∨ k = 1 ∨ k = 2 ∨ k = 3 ∨ k = 4 ∨ k = 5 by omega) with rfl | rfl | rfl | rfl | rfl | rfl
    · rw [hp]; exact m_parts_0d σ B r x hk hn ha (by omega) hn7 ha9 hna
    · rw [hp]; exact m_parts_1d σ B r x hk hn ha (by omega) hn7 ha9 hna
    · rw [hp]; exact m_parts_2d σ B r x hk hn ha (by omega) hn7 ha9 hna
    · rw [hp]; exact m_parts_3d σ B r x hk hn ha (by omega) hn7 ha9 hna
    · rw [hp]; exact m_parts_4d σ B r x hk hn ha (by omega) hn7 ha9 hna
    · rw [hp]; have e5 : (pC 5 n a).length = 3 := by show (nI 61 :: nI 12 :: (if n = a then [] else cC 5)).length = _; rw [if_neg hna]; rfl
      rw [e5]; exact m_parts_5d σ B r x hk hn ha (by omega) hn7 ha9 hna
theorem m_looksG (σ : Store) (B : Row) (r : Nat) (x : Int32) {k n a : Nat} (hk5 : k ≤ 5) (hk : σ 0 23 = nI k) (hn : σ 0 24 = nI n) (ha : σ 0 25 = nI a) (hr : r ≤ 5) (hn7 : n ≤ 7) (ha9 : a ≤ 9) : Ct ΛM mt_Md_looks 7 [.ref 0, .int x] (aS σ B r 0) (PF (kV k n a x) (aS σ (wl B r (kC k n a)) (r + (kC k n a).length) (aP 3 k n a))) := by
  by_cases hna : n = a
  · have hp : ∀ k, aP 3 k n a = (if 3 = 2 ∨ 3 = 3 ∧ (k = 2 ∨ k = 4) then 1 else 0) := fun k => if_pos hna
    rcases (show k = 0 ∨ k = 1 ∨ k = 2 ∨ k = 3 ∨ k = 4 ∨ k = 5 by omega) with rfl | rfl | rfl | rfl | rfl | rfl
    · rw [hp]; exact m_looks_0e σ B r x hk hn ha (by omega) hn7 ha9 hna
    · rw [hp]; exact m_looks_1e σ B r x hk hn ha (by omega) hn7 ha9 hna
    · rw [hp]; exact m_looks_2e σ B r x hk hn ha (by omega) hn7 ha9 hna
    · rw [hp]; exact m_looks_3e σ B r x hk hn ha (by omega) hn7 ha9 hna
    · rw [hp]; exact m_looks_4e σ B r x hk hn ha (by omega) hn7 ha9 hna
    · rw [hp]; exact m_looks_5e σ B r x hk hn ha (by omega) hn7 ha9 hna
  · have hp : ∀ k, aP 3 k n a = 0 := fun k => if_neg hna
    rcases (show k = 0 ∨ k = 1 ∨ k = 2 ∨ k = 3 ∨ k = 4 ∨ k = 5 by omega) with rfl | rfl | rfl | rfl | rfl | rfl
    · rw [hp]; exact m_looks_0d σ B r x hk hn ha (by omega) hn7 ha9 hna
    · rw [hp]; exact m_looks_1d σ B r x hk hn ha (by omega) hn7 ha9 hna
    · rw [hp]; exact m_looks_2d σ B r x hk hn ha (by omega) hn7 ha9 hna
    · rw [hp]; exact m_looks_3d σ B r x hk hn ha (by omega) hn7 ha9 hna
    · rw [hp]; exact m_looks_4d σ B r x hk hn ha (by omega) hn7 ha9 hna
    · rw [hp]; exact m_looks_5d σ B r x hk hn ha (by omega) hn7 ha9 hna
