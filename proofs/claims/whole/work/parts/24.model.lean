/-! THE REFERENCE: fits, shelves -/
/-- of the wits 9, 8, .. those that fit: how many, the least so far -/
def ftF (P : Nat → Bool) : Nat → Nat × Int32
  | 0 => (0, -3)
  | c + 1 => if P (9 - c) then ((ftF P c).1 + 1, nI (9 - c)) else ftF P c
theorem ftF_le (P : Nat → Bool) : ∀ c, (ftF P c).1 ≤ c := by
  intro c
  induction c with
  | zero => exact Nat.le_refl _
  | succ c ih =>
    show (if _ then _ else _ : Nat × Int32).1 ≤ _
    split
    · show _ + 1 ≤ _; omega
    · omega
def fitsV (σ : Store) (f : Row) (x y z : Int32) : Int32 := match rg 0 3 x with
  | none => -1
  | some t => match pz f y with
    | none => -1
    | some o => match rg 0 1 z with
      | none => -1
      | some w => if σ 8 t < 0 then -11 else if w = 0 then nI (ftF (fun v => tld (upd f (19 + 6 * o + 2) (nI v)) o (σ 10) (40 * t) (tn (σ 9 t)) 0) 10).1 else (ftF (fun v => tld (upd f (19 + 6 * o + 2) (nI v)) o (σ 10) (40 * t) (tn (σ 9 t)) 0) 10).2
theorem ft_1 (P : Nat → Bool) (c : Nat) : (ftF P (c + 1)).1 = (ftF P c).1 + (if P (9 - c) then 1 else 0) := by
  show (if _ then _ else _ : Nat × Int32).1 = _
  split <;> rfl
theorem ft_2 (P : Nat → Bool) (c : Nat) : (ftF P (c + 1)).2 = if P (9 - c) then nI (9 - c) else (ftF P c).2 := by
  show (if _ then _ else _ : Nat × Int32).2 = _
  split <;> rfl
set_option maxRecDepth 20000 in
theorem q_fits_lp {X : CX} {σ : Store} {f : Row} (hI : Inv f) {o : Nat} (ho : o < nn f) {t n w : Nat} (ht : t < 4) (e9 : σ 9 t = nI n) (hn : n ≤ 40) (hw : w ≤ 1) {P : Nat → Bool} (hP : P = (fun v => tld (upd f (19 + 6 * o + 2) (nI v)) o (σ 10) (40 * t) n 0)) : ∀ (j : Nat), j ≤ 9 → ∀ (v : Int32), Rng v 9 → ∀ (a b : Row), Rt (ΛM, mt_Md_fits, 5) (mP σ (if w = 0 then nI (ftF P 10).1 else (ftF P 10).2) f) X → G (ΛM, mt_Md_fits, 5) X (mS (s_row σ 3 a) (upd f (19 + 6 * o + 2) v) b) [some (.ref 0), some (.int (nI t)), some (.int (nI o)), some (.int (nI w)), some (.int (nI (19 + 6 * o + 2))), some (.int (f (19 + 6 * o + 2))), some (.int (nI ((ftF P (9 - j)).1))), some (.int ((ftF P (9 - j)).2)), some (.int (nI j)), none] [] 70 := by
  have hn8 := hI.n.2
  intro j
  induction j with
  | zero =>
    intro hj v hv a b hR
    have hle := ftF_le P (9 - 0)
    refine g_iload (by decide +kernel : decode prog_10_method_77_code 70 = .ok (.iload 8, 2)) rfl ?_
    refine g_if_ltN (by decide +kernel : decode prog_10_method_77_code 72 = .ok (.ifCond .lt 55, 3)) (by decide) (by decide) ?_
    refine g_aload_n (by decide +kernel : decode prog_10_method_77_code 75 = .ok (.aload_n 0, 1)) rfl ?_
    refine g_getR (by decide +kernel : decode prog_10_method_77_code 76 = .ok (.getfield 7, 3)) fl_Md_7 rfl rfl ?_
    refine g_iload (by decide +kernel : decode prog_10_method_77_code 79 = .ok (.iload 4, 2)) rfl ?_
    refine g_iload (by decide +kernel : decode prog_10_method_77_code 81 = .ok (.iload 8, 2)) rfl ?_
    refine g_iastore (a := 19 + 6 * o + 2) (by decide +kernel : decode prog_10_method_77_code 83 = .ok (.iastore, 1)) rfl rfl (by first | omega | (have h9 := ite1 (P 0 = true); omega)) (by decide) ?_
    refine g_sto (mS_u1 _ _ _ _ _) ?_
    refine g_sto (σ' := mS (s_row σ 3 a) (upd f (19 + 6 * o + 2) (nI 0)) b) (by rw [upd_upd]) ?_
    refine g_aload_n (by decide +kernel : decode prog_10_method_77_code 84 = .ok (.aload_n 0, 1)) rfl ?_
    refine g_iload_n (by decide +kernel : decode prog_10_method_77_code 85 = .ok (.iload_n 1, 1)) rfl ?_
    refine g_iload_n (by decide +kernel : decode prog_10_method_77_code 86 = .ok (.iload_n 2, 1)) rfl ?_
    refine g_callVI [.int (nI t), .int (nI o)] (by decide +kernel : decode prog_10_method_77_code 87 = .ok (.invokevirtual 243, 3)) lk_Md_243 (m_isTold (s_row σ 3 a) (upd f (19 + 6 * o + 2) (nI 0)) b (hI.up (by decide) (Rng.of (by show 0 ≤ 9; omega))) o (by rw [nn_up (by omega)]; exact ho) t n ht e9 hn) rfl rfl rfl rfl (Nat.le_of_ble_eq_true rfl) (Nat.le_of_ble_eq_true rfl) (fun r87 s87 h87 => ?_)
    obtain ⟨rfl, a2, b2, rfl⟩ := h87
    refine g_sto (σ' := mS (s_row σ 3 a2) (upd f (19 + 6 * o + 2) (nI 0)) b2) (by rw [s_row_row]) ?_
    refine g_top (w := nI (if P 0 then 1 else 0)) (by rw [hP]; rfl) ?_
    refine g_istore (L' := [some (.ref 0), some (.int (nI t)), some (.int (nI o)), some (.int (nI w)), some (.int (nI (19 + 6 * o + 2))), some (.int (f (19 + 6 * o + 2))), some (.int (nI ((ftF P (9 - 0)).1))), some (.int ((ftF P (9 - 0)).2)), some (.int (nI 0)), some (.int (nI (if P 0 then 1 else 0)))]) (by decide +kernel : decode prog_10_method_77_code 90 = .ok (.istore 9, 2)) (Nat.le_of_ble_eq_true rfl) rfl ?_
    refine g_iload (by decide +kernel : decode prog_10_method_77_code 92 = .ok (.iload 6, 2)) rfl ?_
    refine g_iload (by decide +kernel : decode prog_10_method_77_code 94 = .ok (.iload 9, 2)) rfl ?_
    have J96 : G (ΛM, mt_Md_fits, 5) X (mS (s_row σ 3 a2) (upd f (19 + 6 * o + 2) (nI 0)) b2) [some (.ref 0), some (.int (nI t)), some (.int (nI o)), some (.int (nI w)), some (.int (nI (19 + 6 * o + 2))), some (.int (f (19 + 6 * o + 2))), some (.int (nI ((ftF P (9 - 0)).1))), some (.int ((ftF P (9 - 0)).2)), some (.int (nI 0)), some (.int (nI (if P 0 then 1 else 0)))] [.int (nI (if P 0 then 1 else 0)), .int (nI ((ftF P (9 - 0)).1))] 104 := by
      refine g_iaddN (by decide +kernel : decode prog_10_method_77_code 104 = .ok (.iadd, 1)) ?_
      refine g_top (w := nI (ftF P (9 - 0 + 1)).1) (by rw [ft_1 P (9 - 0), show 9 - (9 - 0) = 0 by omega]) ?_
      refine g_istore (L' := [some (.ref 0), some (.int (nI t)), some (.int (nI o)), some (.int (nI w)), some (.int (nI (19 + 6 * o + 2))), some (.int (f (19 + 6 * o + 2))), some (.int (nI ((ftF P (9 - 0 + 1)).1))), some (.int ((ftF P (9 - 0)).2)), some (.int (nI 0)), some (.int (nI (if P 0 then 1 else 0)))]) (by decide +kernel : decode prog_10_method_77_code 105 = .ok (.istore 6, 2)) (Nat.le_of_ble_eq_true rfl) rfl ?_
      refine g_iload (by decide +kernel : decode prog_10_method_77_code 107 = .ok (.iload 9, 2)) rfl ?_
      have J109 : G (ΛM, mt_Md_fits, 5) X (mS (s_row σ 3 a2) (upd f (19 + 6 * o + 2) (nI 0)) b2) [some (.ref 0), some (.int (nI t)), some (.int (nI o)), some (.int (nI w)), some (.int (nI (19 + 6 * o + 2))), some (.int (f (19 + 6 * o + 2))), some (.int (nI ((ftF P (9 - 0 + 1)).1))), some (.int ((ftF P (9 - 0)).2)), some (.int (nI 0)), some (.int (nI (if P 0 then 1 else 0)))] [.int ((ftF P (9 - 0 + 1)).2)] 119 := by
        refine g_istore (L' := [some (.ref 0), some (.int (nI t)), some (.int (nI o)), some (.int (nI w)), some (.int (nI (19 + 6 * o + 2))), some (.int (f (19 + 6 * o + 2))), some (.int (nI ((ftF P (9 - 0 + 1)).1))), some (.int ((ftF P (9 - 0 + 1)).2)), some (.int (nI 0)), some (.int (nI (if P 0 then 1 else 0)))]) (by decide +kernel : decode prog_10_method_77_code 119 = .ok (.istore 7, 2)) (Nat.le_of_ble_eq_true rfl) rfl ?_
        refine g_iinc (v := -1) (L' := [some (.ref 0), some (.int (nI t)), some (.int (nI o)), some (.int (nI w)), some (.int (nI (19 + 6 * o + 2))), some (.int (f (19 + 6 * o + 2))), some (.int (nI ((ftF P (9 - 0 + 1)).1))), some (.int ((ftF P (9 - 0 + 1)).2)), some (.int (-1)), some (.int (nI (if P 0 then 1 else 0)))]) (by decide +kernel : decode prog_10_method_77_code 121 = .ok (.iinc 8 (-1), 3)) rfl rfl (Nat.le_of_ble_eq_true rfl) rfl ?_
        refine g_goto (tgt := 70) (by decide +kernel : decode prog_10_method_77_code 124 = .ok (.goto (-54), 3)) (by decide) ?_
        refine g_iload (by decide +kernel : decode prog_10_method_77_code 70 = .ok (.iload 8, 2)) rfl ?_
        refine g_if_lt (tgt := 127) (by decide +kernel : decode prog_10_method_77_code 72 = .ok (.ifCond .lt 55, 3)) (by decide) (fun _ => ?_) (fun h => False.elim (by revert h; decide))
        refine g_aload_n (by decide +kernel : decode prog_10_method_77_code 127 = .ok (.aload_n 0, 1)) rfl ?_
        refine g_getR (by decide +kernel : decode prog_10_method_77_code 128 = .ok (.getfield 7, 3)) fl_Md_7 rfl rfl ?_
        refine g_iload (by decide +kernel : decode prog_10_method_77_code 131 = .ok (.iload 4, 2)) rfl ?_
        refine g_iload (by decide +kernel : decode prog_10_method_77_code 133 = .ok (.iload 5, 2)) rfl ?_
        refine g_iastore (a := 19 + 6 * o + 2) (by decide +kernel : decode prog_10_method_77_code 135 = .ok (.iastore, 1)) rfl rfl (by first | omega | (have h9 := ite1 (P 0 = true); omega)) (by decide) ?_
        refine g_sto (mS_u1 _ _ _ _ _) ?_
        refine g_sto (σ' := mS (s_row σ 3 a2) f b2) (by rw [upd_upd, upd_self]) ?_
        refine g_iload_n (by decide +kernel : decode prog_10_method_77_code 136 = .ok (.iload_n 3, 1)) rfl ?_
        refine g_if_neN (tgt := 145) (by decide +kernel : decode prog_10_method_77_code 137 = .ok (.ifCond .ne 8, 3)) (by decide) (by first | omega | (have h9 := ite1 (P 0 = true); omega)) (fun h137 => ?_) (fun h137 => ?_)
        · refine g_iload (by decide +kernel : decode prog_10_method_77_code 145 = .ok (.iload 7, 2)) rfl ?_
          exact g_iret hR (by decide +kernel : decode prog_10_method_77_code 147 = .ok (.ireturn, 1)) rfl ⟨_, rfl, ⟨by rw [if_neg h137], ⟨_, _, rfl⟩⟩⟩
        · refine g_iload (by decide +kernel : decode prog_10_method_77_code 140 = .ok (.iload 6, 2)) rfl ?_
          refine g_goto (tgt := 147) (by decide +kernel : decode prog_10_method_77_code 142 = .ok (.goto 5, 3)) (by decide) ?_
          exact g_iret hR (by decide +kernel : decode prog_10_method_77_code 147 = .ok (.ireturn, 1)) rfl ⟨_, rfl, ⟨by rw [if_pos h137], ⟨_, _, rfl⟩⟩⟩
      refine g_if_eqN (tgt := 117) (by decide +kernel : decode prog_10_method_77_code 109 = .ok (.ifCond .eq 8, 3)) (by decide) (by first | omega | (have h9 := ite1 (P 0 = true); omega)) (fun h109 => ?_) (fun h109 => ?_)
      · refine g_iload (by decide +kernel : decode prog_10_method_77_code 117 = .ok (.iload 7, 2)) rfl ?_
        exact g_top (by rw [ft_2 P (9 - 0), show 9 - (9 - 0) = 0 by omega]; exact (if_neg (fun z => by rw [if_pos z] at h109; exact absurd h109 (by decide))).symm) J109
      · refine g_iload (by decide +kernel : decode prog_10_method_77_code 112 = .ok (.iload 8, 2)) rfl ?_
        refine g_goto (tgt := 119) (by decide +kernel : decode prog_10_method_77_code 114 = .ok (.goto 5, 3)) (by decide) ?_
        exact g_top (by rw [ft_2 P (9 - 0), show 9 - (9 - 0) = 0 by omega]; exact (if_pos (by cases hz : P 0 with | true => rfl | false => rw [hz] at h109; exact absurd rfl h109)).symm) J109
    refine g_if_eqN (tgt := 103) (by decide +kernel : decode prog_10_method_77_code 96 = .ok (.ifCond .eq 7, 3)) (by decide) (by first | omega | (have h9 := ite1 (P 0 = true); omega)) (fun h96 => ?_) (fun h96 => ?_)
    · refine g_iconst (v := nI 0) (by decide +kernel : decode prog_10_method_77_code 103 = .ok (.iconst 0, 1)) (by decide) ?_
      exact g_top (by rw [h96]) J96
    · refine g_iconst (v := nI 1) (by decide +kernel : decode prog_10_method_77_code 99 = .ok (.iconst 1, 1)) (by decide) ?_
      refine g_goto (tgt := 104) (by decide +kernel : decode prog_10_method_77_code 100 = .ok (.goto 4, 3)) (by decide) ?_
      exact g_top (congrArg nI (by have h9 := ite1 (P 0 = true); omega)) J96
  | succ j ih =>
    intro hj v hv a b hR
    have hle := ftF_le P (9 - (j + 1))
    refine g_iload (by decide +kernel : decode prog_10_method_77_code 70 = .ok (.iload 8, 2)) rfl ?_
    refine g_if_ltN (by decide +kernel : decode prog_10_method_77_code 72 = .ok (.ifCond .lt 55, 3)) (by decide) (by first | omega | (have h9 := ite1 (P (j + 1) = true); omega)) ?_
    refine g_aload_n (by decide +kernel : decode prog_10_method_77_code 75 = .ok (.aload_n 0, 1)) rfl ?_
    refine g_getR (by decide +kernel : decode prog_10_method_77_code 76 = .ok (.getfield 7, 3)) fl_Md_7 rfl rfl ?_
    refine g_iload (by decide +kernel : decode prog_10_method_77_code 79 = .ok (.iload 4, 2)) rfl ?_
    refine g_iload (by decide +kernel : decode prog_10_method_77_code 81 = .ok (.iload 8, 2)) rfl ?_
    refine g_iastore (a := 19 + 6 * o + 2) (by decide +kernel : decode prog_10_method_77_code 83 = .ok (.iastore, 1)) rfl rfl (by first | omega | (have h9 := ite1 (P (j + 1) = true); omega)) (by decide) ?_
    refine g_sto (mS_u1 _ _ _ _ _) ?_
    refine g_sto (σ' := mS (s_row σ 3 a) (upd f (19 + 6 * o + 2) (nI (j + 1))) b) (by rw [upd_upd]) ?_
    refine g_aload_n (by decide +kernel : decode prog_10_method_77_code 84 = .ok (.aload_n 0, 1)) rfl ?_
    refine g_iload_n (by decide +kernel : decode prog_10_method_77_code 85 = .ok (.iload_n 1, 1)) rfl ?_
    refine g_iload_n (by decide +kernel : decode prog_10_method_77_code 86 = .ok (.iload_n 2, 1)) rfl ?_
    refine g_callVI [.int (nI t), .int (nI o)] (by decide +kernel : decode prog_10_method_77_code 87 = .ok (.invokevirtual 243, 3)) lk_Md_243 (m_isTold (s_row σ 3 a) (upd f (19 + 6 * o + 2) (nI (j + 1))) b (hI.up (by decide) (Rng.of (by show j + 1 ≤ 9; omega))) o (by rw [nn_up (by omega)]; exact ho) t n ht e9 hn) rfl rfl rfl rfl (Nat.le_of_ble_eq_true rfl) (Nat.le_of_ble_eq_true rfl) (fun r87 s87 h87 => ?_)
    obtain ⟨rfl, a2, b2, rfl⟩ := h87
    refine g_sto (σ' := mS (s_row σ 3 a2) (upd f (19 + 6 * o + 2) (nI (j + 1))) b2) (by rw [s_row_row]) ?_
    refine g_top (w := nI (if P (j + 1) then 1 else 0)) (by rw [hP]; rfl) ?_
    refine g_istore (L' := [some (.ref 0), some (.int (nI t)), some (.int (nI o)), some (.int (nI w)), some (.int (nI (19 + 6 * o + 2))), some (.int (f (19 + 6 * o + 2))), some (.int (nI ((ftF P (9 - (j + 1))).1))), some (.int ((ftF P (9 - (j + 1))).2)), some (.int (nI (j + 1))), some (.int (nI (if P (j + 1) then 1 else 0)))]) (by decide +kernel : decode prog_10_method_77_code 90 = .ok (.istore 9, 2)) (Nat.le_of_ble_eq_true rfl) rfl ?_
    refine g_iload (by decide +kernel : decode prog_10_method_77_code 92 = .ok (.iload 6, 2)) rfl ?_
    refine g_iload (by decide +kernel : decode prog_10_method_77_code 94 = .ok (.iload 9, 2)) rfl ?_
    have J96 : G (ΛM, mt_Md_fits, 5) X (mS (s_row σ 3 a2) (upd f (19 + 6 * o + 2) (nI (j + 1))) b2) [some (.ref 0), some (.int (nI t)), some (.int (nI o)), some (.int (nI w)), some (.int (nI (19 + 6 * o + 2))), some (.int (f (19 + 6 * o + 2))), some (.int (nI ((ftF P (9 - (j + 1))).1))), some (.int ((ftF P (9 - (j + 1))).2)), some (.int (nI (j + 1))), some (.int (nI (if P (j + 1) then 1 else 0)))] [.int (nI (if P (j + 1) then 1 else 0)), .int (nI ((ftF P (9 - (j + 1))).1))] 104 := by
      refine g_iaddN (by decide +kernel : decode prog_10_method_77_code 104 = .ok (.iadd, 1)) ?_
      refine g_top (w := nI (ftF P (9 - (j + 1) + 1)).1) (by rw [ft_1 P (9 - (j + 1)), show 9 - (9 - (j + 1)) = j + 1 by omega]) ?_
      refine g_istore (L' := [some (.ref 0), some (.int (nI t)), some (.int (nI o)), some (.int (nI w)), some (.int (nI (19 + 6 * o + 2))), some (.int (f (19 + 6 * o + 2))), some (.int (nI ((ftF P (9 - (j + 1) + 1)).1))), some (.int ((ftF P (9 - (j + 1))).2)), some (.int (nI (j + 1))), some (.int (nI (if P (j + 1) then 1 else 0)))]) (by decide +kernel : decode prog_10_method_77_code 105 = .ok (.istore 6, 2)) (Nat.le_of_ble_eq_true rfl) rfl ?_
      refine g_iload (by decide +kernel : decode prog_10_method_77_code 107 = .ok (.iload 9, 2)) rfl ?_
      have J109 : G (ΛM, mt_Md_fits, 5) X (mS (s_row σ 3 a2) (upd f (19 + 6 * o + 2) (nI (j + 1))) b2) [some (.ref 0), some (.int (nI t)), some (.int (nI o)), some (.int (nI w)), some (.int (nI (19 + 6 * o + 2))), some (.int (f (19 + 6 * o + 2))), some (.int (nI ((ftF P (9 - (j + 1) + 1)).1))), some (.int ((ftF P (9 - (j + 1))).2)), some (.int (nI (j + 1))), some (.int (nI (if P (j + 1) then 1 else 0)))] [.int ((ftF P (9 - (j + 1) + 1)).2)] 119 := by
        refine g_istore (L' := [some (.ref 0), some (.int (nI t)), some (.int (nI o)), some (.int (nI w)), some (.int (nI (19 + 6 * o + 2))), some (.int (f (19 + 6 * o + 2))), some (.int (nI ((ftF P (9 - (j + 1) + 1)).1))), some (.int ((ftF P (9 - (j + 1) + 1)).2)), some (.int (nI (j + 1))), some (.int (nI (if P (j + 1) then 1 else 0)))]) (by decide +kernel : decode prog_10_method_77_code 119 = .ok (.istore 7, 2)) (Nat.le_of_ble_eq_true rfl) rfl ?_
        refine g_iincD (L' := [some (.ref 0), some (.int (nI t)), some (.int (nI o)), some (.int (nI w)), some (.int (nI (19 + 6 * o + 2))), some (.int (f (19 + 6 * o + 2))), some (.int (nI ((ftF P (9 - (j + 1) + 1)).1))), some (.int ((ftF P (9 - (j + 1) + 1)).2)), some (.int (nI j)), some (.int (nI (if P (j + 1) then 1 else 0)))]) (by decide +kernel : decode prog_10_method_77_code 121 = .ok (.iinc 8 (-1), 3)) rfl (Nat.le_of_ble_eq_true rfl) rfl ?_
        refine g_goto (tgt := 70) (by decide +kernel : decode prog_10_method_77_code 124 = .ok (.goto (-54), 3)) (by decide) ?_
        refine g_sub (L' := [some (.ref 0), some (.int (nI t)), some (.int (nI o)), some (.int (nI w)), some (.int (nI (19 + 6 * o + 2))), some (.int (f (19 + 6 * o + 2))), some (.int (nI ((ftF P (9 - (j + 1) + 1)).1))), some (.int ((ftF P (9 - (j + 1) + 1)).2)), some (.int (nI j)), none]) ⟨rfl, rfl, rfl, rfl, rfl, rfl, rfl, rfl, rfl, trivial⟩ ?_
        have e9j : 9 - (j + 1) + 1 = 9 - j := by omega
        rw [e9j]
        exact ih (by omega) _ (Rng.of (by show j + 1 ≤ 9; omega)) _ _ hR
      refine g_if_eqN (tgt := 117) (by decide +kernel : decode prog_10_method_77_code 109 = .ok (.ifCond .eq 8, 3)) (by decide) (by first | omega | (have h9 := ite1 (P (j + 1) = true); omega)) (fun h109 => ?_) (fun h109 => ?_)
      · refine g_iload (by decide +kernel : decode prog_10_method_77_code 117 = .ok (.iload 7, 2)) rfl ?_
        exact g_top (by rw [ft_2 P (9 - (j + 1)), show 9 - (9 - (j + 1)) = j + 1 by omega]; exact (if_neg (fun z => by rw [if_pos z] at h109; exact absurd h109 (by decide))).symm) J109
      · refine g_iload (by decide +kernel : decode prog_10_method_77_code 112 = .ok (.iload 8, 2)) rfl ?_
        refine g_goto (tgt := 119) (by decide +kernel : decode prog_10_method_77_code 114 = .ok (.goto 5, 3)) (by decide) ?_
        exact g_top (by rw [ft_2 P (9 - (j + 1)), show 9 - (9 - (j + 1)) = j + 1 by omega]; exact (if_pos (by cases hz : P (j + 1) with | true => rfl | false => rw [hz] at h109; exact absurd rfl h109)).symm) J109
    refine g_if_eqN (tgt := 103) (by decide +kernel : decode prog_10_method_77_code 96 = .ok (.ifCond .eq 7, 3)) (by decide) (by first | omega | (have h9 := ite1 (P (j + 1) = true); omega)) (fun h96 => ?_) (fun h96 => ?_)
    · refine g_iconst (v := nI 0) (by decide +kernel : decode prog_10_method_77_code 103 = .ok (.iconst 0, 1)) (by decide) ?_
      exact g_top (by rw [h96]) J96
    · refine g_iconst (v := nI 1) (by decide +kernel : decode prog_10_method_77_code 99 = .ok (.iconst 1, 1)) (by decide) ?_
      refine g_goto (tgt := 104) (by decide +kernel : decode prog_10_method_77_code 100 = .ok (.goto 4, 3)) (by decide) ?_
      exact g_top (congrArg nI (by have h9 := ite1 (P (j + 1) = true); omega)) J96
set_option maxRecDepth 20000 in
theorem q_fits (σ : Store) (f b : Row) (hI : Inv f) (hS : ShI σ) (x y z : Int32) : Ct ΛM mt_Md_fits 5 [.ref 0, .int x, .int y, .int z] (mS σ f b) (mP σ (fitsV σ f x y z) f) := by
  refine Ct.of (by decide) (Nat.le_of_ble_eq_true rfl) (fun X hR => ?_)
  show G (ΛM, mt_Md_fits, 5) X (mS σ f b) [some (.ref 0), some (.int x), some (.int y), some (.int z), none, none, none, none, none, none] [] 0
  have hn8 := hI.n.2
  refine g_iload_n (by decide +kernel : decode prog_10_method_77_code 0 = .ok (.iload_n 1, 1)) rfl ?_
  refine g_callSI [.int x] (by decide +kernel : decode prog_10_method_77_code 1 = .ok (.invokestatic 240, 3)) lk_Md_240 (m_isSheet ΛM (mS σ f b) x) rfl rfl (Nat.le_of_ble_eq_true rfl) (Nat.le_of_ble_eq_true rfl) (fun r1 s1 h1 => ?_)
  rcases h1 with ⟨rfl, ⟨rfl, t, ha1, hb1, rfl⟩ | ⟨rfl, n1⟩⟩
  · refine g_if_eqN (tgt := 25) (by decide +kernel : decode prog_10_method_77_code 4 = .ok (.ifCond .eq 21, 3)) (by decide) (by decide) (fun h => False.elim (by revert h; decide)) (fun _ => ?_)
    refine g_aload_n (by decide +kernel : decode prog_10_method_77_code 7 = .ok (.aload_n 0, 1)) rfl ?_
    refine g_iload_n (by decide +kernel : decode prog_10_method_77_code 8 = .ok (.iload_n 2, 1)) rfl ?_
    refine g_callVI [.int y] (by decide +kernel : decode prog_10_method_77_code 9 = .ok (.invokevirtual 172, 3)) lk_Md_172 (m_isOne (mS σ f b) y hI.n.1 (by omega)) rfl rfl rfl rfl (Nat.le_of_ble_eq_true rfl) (Nat.le_of_ble_eq_true rfl) (fun r9 s9 h9 => ?_)
    rcases h9 with ⟨rfl, ⟨rfl, o, ho9, rfl⟩ | ⟨rfl, n9⟩⟩
    · refine g_if_eqN (tgt := 25) (by decide +kernel : decode prog_10_method_77_code 12 = .ok (.ifCond .eq 13, 3)) (by decide) (by decide) (fun h => False.elim (by revert h; decide)) (fun _ => ?_)
      refine g_iload_n (by decide +kernel : decode prog_10_method_77_code 15 = .ok (.iload_n 3, 1)) rfl ?_
      refine g_i2l (by decide +kernel : decode prog_10_method_77_code 16 = .ok (.i2l, 1)) ?_
      refine g_lconst (v := lN 0) (by decide +kernel : decode prog_10_method_77_code 17 = .ok (.lconst 0, 1)) (by decide) ?_
      refine g_lconst (v := lN 1) (by decide +kernel : decode prog_10_method_77_code 18 = .ok (.lconst 1, 1)) (by decide) ?_
      refine g_callSI [.long (Int32.toInt64 z), .long (lN 0), .long (lN 1)] (by decide +kernel : decode prog_10_method_77_code 19 = .ok (.invokestatic 57, 3)) lk_Md_57 (m_isInN ΛM (mS σ f b) z 0 1) rfl rfl (Nat.le_of_ble_eq_true rfl) (Nat.le_of_ble_eq_true rfl) (fun r19 s19 h19 => ?_)
      rcases h19 with ⟨rfl, ⟨rfl, w, ha19, hb19, rfl⟩ | ⟨rfl, n19⟩⟩
      · refine g_if_neN (tgt := 27) (by decide +kernel : decode prog_10_method_77_code 22 = .ok (.ifCond .ne 5, 3)) (by decide) (by decide) (fun _ => ?_) (fun h => False.elim (by revert h; decide))
        obtain ⟨n, hn, e9⟩ := (hS t (by omega)).2
        have htn : tn (σ 9 t) = n := by rw [e9, tn_nI (by omega)]
        rcases (hS t (by omega)).1 with e8 | ⟨s, hs, e8⟩
        · refine g_aload_n (by decide +kernel : decode prog_10_method_77_code 27 = .ok (.aload_n 0, 1)) rfl ?_
          refine g_getR (by decide +kernel : decode prog_10_method_77_code 28 = .ok (.getfield 31, 3)) fl_Md_31 rfl rfl ?_
          refine g_iload_n (by decide +kernel : decode prog_10_method_77_code 31 = .ok (.iload_n 1, 1)) rfl ?_
          refine g_iaload (a := t) (by decide +kernel : decode prog_10_method_77_code 32 = .ok (.iaload, 1)) rfl rfl (by omega) (by decide) ?_
          refine g_top (w := (-1)) (e8) ?_
          refine g_if_ge (tgt := 39) (by decide +kernel : decode prog_10_method_77_code 33 = .ok (.ifCond .ge 6, 3)) (by decide) (fun h => False.elim (by revert h; decide)) (fun _ => ?_)
          refine g_bipush (v := (-11)) (by decide +kernel : decode prog_10_method_77_code 36 = .ok (.bipush (-11), 2)) (by decide) ?_
          exact g_iret hR (by decide +kernel : decode prog_10_method_77_code 38 = .ok (.ireturn, 1)) rfl ⟨_, rfl, ⟨by simp only [fitsV, rg_of ha1 hb1, pz_of hI ho9, rg_of ha19 hb19, neg8 e8], Jk.self _ _ _⟩⟩
        · refine g_aload_n (by decide +kernel : decode prog_10_method_77_code 27 = .ok (.aload_n 0, 1)) rfl ?_
          refine g_getR (by decide +kernel : decode prog_10_method_77_code 28 = .ok (.getfield 31, 3)) fl_Md_31 rfl rfl ?_
          refine g_iload_n (by decide +kernel : decode prog_10_method_77_code 31 = .ok (.iload_n 1, 1)) rfl ?_
          refine g_iaload (a := t) (by decide +kernel : decode prog_10_method_77_code 32 = .ok (.iaload, 1)) rfl rfl (by omega) (by decide) ?_
          refine g_top (w := nI s) (e8) ?_
          refine g_if_geN (tgt := 39) (by decide +kernel : decode prog_10_method_77_code 33 = .ok (.ifCond .ge 6, 3)) (by decide) (by omega) ?_
          refine g_bipush (v := nI 19) (by decide +kernel : decode prog_10_method_77_code 39 = .ok (.bipush 19, 2)) (by decide) ?_
          refine g_bipush (v := nI 6) (by decide +kernel : decode prog_10_method_77_code 41 = .ok (.bipush 6, 2)) (by decide) ?_
          refine g_iload_n (by decide +kernel : decode prog_10_method_77_code 43 = .ok (.iload_n 2, 1)) rfl ?_
          refine g_imulN (by decide +kernel : decode prog_10_method_77_code 44 = .ok (.imul, 1)) ?_
          refine g_iaddN (by decide +kernel : decode prog_10_method_77_code 45 = .ok (.iadd, 1)) ?_
          refine g_iconst (v := nI 2) (by decide +kernel : decode prog_10_method_77_code 46 = .ok (.iconst 2, 1)) (by decide) ?_
          refine g_iaddN (by decide +kernel : decode prog_10_method_77_code 47 = .ok (.iadd, 1)) ?_
          refine g_istore (L' := [some (.ref 0), some (.int (nI t)), some (.int (nI o)), some (.int (nI w)), some (.int (nI (19 + 6 * o + 2))), none, none, none, none, none]) (by decide +kernel : decode prog_10_method_77_code 48 = .ok (.istore 4, 2)) (Nat.le_of_ble_eq_true rfl) rfl ?_
          refine g_aload_n (by decide +kernel : decode prog_10_method_77_code 50 = .ok (.aload_n 0, 1)) rfl ?_
          refine g_getR (by decide +kernel : decode prog_10_method_77_code 51 = .ok (.getfield 7, 3)) fl_Md_7 rfl rfl ?_
          refine g_iload (by decide +kernel : decode prog_10_method_77_code 54 = .ok (.iload 4, 2)) rfl ?_
          refine g_iaload (a := 19 + 6 * o + 2) (by decide +kernel : decode prog_10_method_77_code 56 = .ok (.iaload, 1)) rfl rfl (by omega) (by decide) ?_
          refine g_top (w := f (19 + 6 * o + 2)) (rfl) ?_
          refine g_istore (L' := [some (.ref 0), some (.int (nI t)), some (.int (nI o)), some (.int (nI w)), some (.int (nI (19 + 6 * o + 2))), some (.int (f (19 + 6 * o + 2))), none, none, none, none]) (by decide +kernel : decode prog_10_method_77_code 57 = .ok (.istore 5, 2)) (Nat.le_of_ble_eq_true rfl) rfl ?_
          refine g_iconst (v := nI 0) (by decide +kernel : decode prog_10_method_77_code 59 = .ok (.iconst 0, 1)) (by decide) ?_
          refine g_istore (L' := [some (.ref 0), some (.int (nI t)), some (.int (nI o)), some (.int (nI w)), some (.int (nI (19 + 6 * o + 2))), some (.int (f (19 + 6 * o + 2))), some (.int (nI 0)), none, none, none]) (by decide +kernel : decode prog_10_method_77_code 60 = .ok (.istore 6, 2)) (Nat.le_of_ble_eq_true rfl) rfl ?_
          refine g_bipush (v := (-3)) (by decide +kernel : decode prog_10_method_77_code 62 = .ok (.bipush (-3), 2)) (by decide) ?_
          refine g_istore (L' := [some (.ref 0), some (.int (nI t)), some (.int (nI o)), some (.int (nI w)), some (.int (nI (19 + 6 * o + 2))), some (.int (f (19 + 6 * o + 2))), some (.int (nI 0)), some (.int (-3)), none, none]) (by decide +kernel : decode prog_10_method_77_code 64 = .ok (.istore 7, 2)) (Nat.le_of_ble_eq_true rfl) rfl ?_
          refine g_bipush (v := nI 9) (by decide +kernel : decode prog_10_method_77_code 66 = .ok (.bipush 9, 2)) (by decide) ?_
          refine g_istore (L' := [some (.ref 0), some (.int (nI t)), some (.int (nI o)), some (.int (nI w)), some (.int (nI (19 + 6 * o + 2))), some (.int (f (19 + 6 * o + 2))), some (.int (nI 0)), some (.int (-3)), some (.int (nI 9)), none]) (by decide +kernel : decode prog_10_method_77_code 68 = .ok (.istore 8, 2)) (Nat.le_of_ble_eq_true rfl) rfl ?_
          refine g_sto (σ' := mS (s_row σ 3 (σ 3)) (upd f (19 + 6 * o + 2) (f (19 + 6 * o + 2))) b) (by rw [s_row_self, upd_self]) ?_
          exact q_fits_lp hI ho9 (by omega) e9 hn (by omega) rfl 9 (by omega) _ (hI.2.1 o ho9 2 (by decide)) _ _ (by simpa only [fitsV, htn, rg_of ha1 hb1, pz_of hI ho9, rg_of ha19 hb19, pos8 hs e8] using hR)
      · refine g_if_neN (tgt := 27) (by decide +kernel : decode prog_10_method_77_code 22 = .ok (.ifCond .ne 5, 3)) (by decide) (by decide) (fun h => False.elim (by revert h; decide)) (fun _ => ?_)
        refine g_iconst (v := (-1)) (by decide +kernel : decode prog_10_method_77_code 25 = .ok (.iconst (-1), 1)) (by decide) ?_
        exact g_iret hR (by decide +kernel : decode prog_10_method_77_code 26 = .ok (.ireturn, 1)) rfl ⟨_, rfl, ⟨by simp only [fitsV, rg_of ha1 hb1, pz_of hI ho9, rg_none n19], Jk.self _ _ _⟩⟩
    · refine g_if_eqN (tgt := 25) (by decide +kernel : decode prog_10_method_77_code 12 = .ok (.ifCond .eq 13, 3)) (by decide) (by decide) (fun _ => ?_) (fun h => False.elim (by revert h; decide))
      refine g_iconst (v := (-1)) (by decide +kernel : decode prog_10_method_77_code 25 = .ok (.iconst (-1), 1)) (by decide) ?_
      exact g_iret hR (by decide +kernel : decode prog_10_method_77_code 26 = .ok (.ireturn, 1)) rfl ⟨_, rfl, ⟨by simp only [fitsV, rg_of ha1 hb1, pz_none hI n9], Jk.self _ _ _⟩⟩
  · refine g_if_eqN (tgt := 25) (by decide +kernel : decode prog_10_method_77_code 4 = .ok (.ifCond .eq 21, 3)) (by decide) (by decide) (fun _ => ?_) (fun h => False.elim (by revert h; decide))
    refine g_iconst (v := (-1)) (by decide +kernel : decode prog_10_method_77_code 25 = .ok (.iconst (-1), 1)) (by decide) ?_
    exact g_iret hR (by decide +kernel : decode prog_10_method_77_code 26 = .ok (.ireturn, 1)) rfl ⟨_, rfl, ⟨by simp only [fitsV, rg_none n1], Jk.self _ _ _⟩⟩
def SvI (σ : Store) : Prop := ∀ h, h < 4 → Rng (σ 11 h) 2
def setSh (σ : Store) (h : Nat) (a b c : Int32) : Store := s_up (s_up (s_up σ 11 h a) 12 h b) 13 h c
def shelfV (f : Row) (x y z : Int32) : Int32 := match rg 0 3 x with
  | none => -1
  | some _ => match rg 0 2 y with
    | none => -1
    | some 0 => (match pz f z with
      | none => -1
      | some _ => nI 1)
    | some 1 => (match rg 0 3 z with
      | none => -1
      | some _ => nI 1)
    | some _ => nI 1
def shelfS (σ : Store) (f : Row) (x y z : Int32) : Store := match rg 0 3 x with
  | none => σ
  | some h => match rg 0 2 y with
    | none => σ
    | some 0 => (match pz f z with
      | none => σ
      | some j => setSh σ h (nI 1) (nI j) (nI 0))
    | some 1 => (match rg 0 3 z with
      | none => σ
      | some t => if σ 8 t < 0 then setSh σ h (nI 0) (nI 0) (nI 0) else setSh σ h (nI 2) (σ 8 t) (σ 9 t))
    | some _ => setSh σ h (nI 0) (nI 0) (nI 0)
set_option maxRecDepth 20000 in
theorem q_shelf (σ : Store) (f b : Row) (hI : Inv f) (hS : ShI σ) (x y z : Int32) : Ct ΛM mt_Md_shelf 2 [.ref 0, .int x, .int y, .int z] (mS σ f b) (PF (shelfV f x y z) (mS (shelfS σ f x y z) f b)) := by
  refine Ct.of (by decide) (Nat.le_of_ble_eq_true rfl) (fun X hR => ?_)
  show G (ΛM, mt_Md_shelf, 2) X (mS σ f b) [some (.ref 0), some (.int x), some (.int y), some (.int z), none] [] 0
  have hn8 := hI.n.2
  refine g_iload_n (by decide +kernel : decode prog_10_method_92_code 0 = .ok (.iload_n 1, 1)) rfl ?_
  refine g_callSI [.int x] (by decide +kernel : decode prog_10_method_92_code 1 = .ok (.invokestatic 269, 3)) lk_Md_269 (m_isShelf ΛM (mS σ f b) x) rfl rfl (Nat.le_of_ble_eq_true rfl) (Nat.le_of_ble_eq_true rfl) (fun r1 s1 h1 => ?_)
  rcases h1 with ⟨rfl, ⟨rfl, h, ha1, hb1, rfl⟩ | ⟨rfl, n1⟩⟩
  · refine g_if_eqN (tgt := 43) (by decide +kernel : decode prog_10_method_92_code 4 = .ok (.ifCond .eq 39, 3)) (by decide) (by decide) (fun h => False.elim (by revert h; decide)) (fun _ => ?_)
    refine g_iload_n (by decide +kernel : decode prog_10_method_92_code 7 = .ok (.iload_n 2, 1)) rfl ?_
    refine g_i2l (by decide +kernel : decode prog_10_method_92_code 8 = .ok (.i2l, 1)) ?_
    refine g_lconst (v := lN 0) (by decide +kernel : decode prog_10_method_92_code 9 = .ok (.lconst 0, 1)) (by decide) ?_
    refine g_ldc2 (v := lN 2) (by decide +kernel : decode prog_10_method_92_code 10 = .ok (.ldc2_w 175, 3)) kc_Md_175 ?_
    refine g_callSI [.long (Int32.toInt64 y), .long (lN 0), .long (lN 2)] (by decide +kernel : decode prog_10_method_92_code 13 = .ok (.invokestatic 57, 3)) lk_Md_57 (m_isInN ΛM (mS σ f b) y 0 2) rfl rfl (Nat.le_of_ble_eq_true rfl) (Nat.le_of_ble_eq_true rfl) (fun r13 s13 h13 => ?_)
    rcases h13 with ⟨rfl, ⟨rfl, w, ha13, hb13, rfl⟩ | ⟨rfl, n13⟩⟩
    · refine g_if_eqN (tgt := 43) (by decide +kernel : decode prog_10_method_92_code 16 = .ok (.ifCond .eq 27, 3)) (by decide) (by decide) (fun h => False.elim (by revert h; decide)) (fun _ => ?_)
      rcases (show w = 0 ∨ w = 1 ∨ w = 2 by omega) with rfl | rfl | rfl
      · refine g_iload_n (by decide +kernel : decode prog_10_method_92_code 19 = .ok (.iload_n 2, 1)) rfl ?_
        refine g_if_neN (tgt := 31) (by decide +kernel : decode prog_10_method_92_code 20 = .ok (.ifCond .ne 11, 3)) (by decide) (by decide) (fun h => False.elim (by revert h; decide)) (fun _ => ?_)
        refine g_aload_n (by decide +kernel : decode prog_10_method_92_code 23 = .ok (.aload_n 0, 1)) rfl ?_
        refine g_iload_n (by decide +kernel : decode prog_10_method_92_code 24 = .ok (.iload_n 3, 1)) rfl ?_
        refine g_callVI [.int z] (by decide +kernel : decode prog_10_method_92_code 25 = .ok (.invokevirtual 172, 3)) lk_Md_172 (m_isOne (mS σ f b) z hI.n.1 (by omega)) rfl rfl rfl rfl (Nat.le_of_ble_eq_true rfl) (Nat.le_of_ble_eq_true rfl) (fun r25 s25 h25 => ?_)
        rcases h25 with ⟨rfl, ⟨rfl, j, ho25, rfl⟩ | ⟨rfl, n25⟩⟩
        · refine g_if_eqN (tgt := 43) (by decide +kernel : decode prog_10_method_92_code 28 = .ok (.ifCond .eq 15, 3)) (by decide) (by decide) (fun h => False.elim (by revert h; decide)) (fun _ => ?_)
          refine g_iload_n (by decide +kernel : decode prog_10_method_92_code 31 = .ok (.iload_n 2, 1)) rfl ?_
          refine g_iconst (v := nI 1) (by decide +kernel : decode prog_10_method_92_code 32 = .ok (.iconst 1, 1)) (by decide) ?_
          refine g_icmp_neN (tgt := 45) (by decide +kernel : decode prog_10_method_92_code 33 = .ok (.if_icmp .ne 12, 3)) (by decide) (by decide) (by decide) (fun _ => ?_) (fun h => False.elim (by revert h; decide))
          refine g_iload_n (by decide +kernel : decode prog_10_method_92_code 45 = .ok (.iload_n 2, 1)) rfl ?_
          refine g_iconst (v := nI 1) (by decide +kernel : decode prog_10_method_92_code 46 = .ok (.iconst 1, 1)) (by decide) ?_
          refine g_icmp_neN (tgt := 63) (by decide +kernel : decode prog_10_method_92_code 47 = .ok (.if_icmp .ne 16, 3)) (by decide) (by decide) (by decide) (fun _ => ?_) (fun h => False.elim (by revert h; decide))
          refine g_iconst (v := nI 0) (by decide +kernel : decode prog_10_method_92_code 63 = .ok (.iconst 0, 1)) (by decide) ?_
          refine g_istore (L' := [some (.ref 0), some (.int (nI h)), some (.int (nI 0)), some (.int (nI j)), some (.int (nI 0))]) (by decide +kernel : decode prog_10_method_92_code 64 = .ok (.istore 4, 2)) (Nat.le_of_ble_eq_true rfl) rfl ?_
          refine g_aload_n (by decide +kernel : decode prog_10_method_92_code 66 = .ok (.aload_n 0, 1)) rfl ?_
          refine g_getR (by decide +kernel : decode prog_10_method_92_code 67 = .ok (.getfield 40, 3)) fl_Md_40 rfl rfl ?_
          refine g_iload_n (by decide +kernel : decode prog_10_method_92_code 70 = .ok (.iload_n 1, 1)) rfl ?_
          refine g_iload_n (by decide +kernel : decode prog_10_method_92_code 71 = .ok (.iload_n 2, 1)) rfl ?_
          refine g_if_neN (tgt := 79) (by decide +kernel : decode prog_10_method_92_code 72 = .ok (.ifCond .ne 7, 3)) (by decide) (by decide) (fun h => False.elim (by revert h; decide)) (fun _ => ?_)
          refine g_iconst (v := nI 1) (by decide +kernel : decode prog_10_method_92_code 75 = .ok (.iconst 1, 1)) (by decide) ?_
          refine g_goto (tgt := 89) (by decide +kernel : decode prog_10_method_92_code 76 = .ok (.goto 13, 3)) (by decide) ?_
          refine g_iastore (a := h) (by decide +kernel : decode prog_10_method_92_code 89 = .ok (.iastore, 1)) rfl rfl (by omega) (by decide) ?_
          refine g_sto (mS_uk _ _ _ _ _ (by decide) (by decide)) ?_
          refine g_aload_n (by decide +kernel : decode prog_10_method_92_code 90 = .ok (.aload_n 0, 1)) rfl ?_
          refine g_getR (by decide +kernel : decode prog_10_method_92_code 91 = .ok (.getfield 43, 3)) fl_Md_43 rfl rfl ?_
          refine g_iload_n (by decide +kernel : decode prog_10_method_92_code 94 = .ok (.iload_n 1, 1)) rfl ?_
          refine g_iload_n (by decide +kernel : decode prog_10_method_92_code 95 = .ok (.iload_n 2, 1)) rfl ?_
          refine g_if_neN (tgt := 103) (by decide +kernel : decode prog_10_method_92_code 96 = .ok (.ifCond .ne 7, 3)) (by decide) (by decide) (fun h => False.elim (by revert h; decide)) (fun _ => ?_)
          refine g_iload_n (by decide +kernel : decode prog_10_method_92_code 99 = .ok (.iload_n 3, 1)) rfl ?_
          refine g_goto (tgt := 118) (by decide +kernel : decode prog_10_method_92_code 100 = .ok (.goto 18, 3)) (by decide) ?_
          refine g_iastore (a := h) (by decide +kernel : decode prog_10_method_92_code 118 = .ok (.iastore, 1)) rfl rfl (by omega) (by decide) ?_
          refine g_sto (mS_uk _ _ _ _ _ (by decide) (by decide)) ?_
          refine g_aload_n (by decide +kernel : decode prog_10_method_92_code 119 = .ok (.aload_n 0, 1)) rfl ?_
          refine g_getR (by decide +kernel : decode prog_10_method_92_code 120 = .ok (.getfield 46, 3)) fl_Md_46 rfl rfl ?_
          refine g_iload_n (by decide +kernel : decode prog_10_method_92_code 123 = .ok (.iload_n 1, 1)) rfl ?_
          refine g_iload (by decide +kernel : decode prog_10_method_92_code 124 = .ok (.iload 4, 2)) rfl ?_
          refine g_if_eqN (tgt := 138) (by decide +kernel : decode prog_10_method_92_code 126 = .ok (.ifCond .eq 12, 3)) (by decide) (by decide) (fun _ => ?_) (fun h => False.elim (by revert h; decide))
          refine g_iconst (v := nI 0) (by decide +kernel : decode prog_10_method_92_code 138 = .ok (.iconst 0, 1)) (by decide) ?_
          refine g_iastore (a := h) (by decide +kernel : decode prog_10_method_92_code 139 = .ok (.iastore, 1)) rfl rfl (by omega) (by decide) ?_
          refine g_sto (mS_uk _ _ _ _ _ (by decide) (by decide)) ?_
          refine g_iconst (v := nI 1) (by decide +kernel : decode prog_10_method_92_code 140 = .ok (.iconst 1, 1)) (by decide) ?_
          exact g_iret hR (by decide +kernel : decode prog_10_method_92_code 141 = .ok (.ireturn, 1)) rfl ⟨_, rfl, ⟨by simp only [shelfV, rg_of ha1 hb1, rg_of ha13 hb13, pz_of hI ho25], by simp only [shelfS, rg_of ha1 hb1, rg_of ha13 hb13, pz_of hI ho25] <;> rfl⟩⟩
        · refine g_if_eqN (tgt := 43) (by decide +kernel : decode prog_10_method_92_code 28 = .ok (.ifCond .eq 15, 3)) (by decide) (by decide) (fun _ => ?_) (fun h => False.elim (by revert h; decide))
          refine g_iconst (v := (-1)) (by decide +kernel : decode prog_10_method_92_code 43 = .ok (.iconst (-1), 1)) (by decide) ?_
          exact g_iret hR (by decide +kernel : decode prog_10_method_92_code 44 = .ok (.ireturn, 1)) rfl ⟨_, rfl, ⟨by simp only [shelfV, rg_of ha1 hb1, rg_of ha13 hb13, pz_none hI n25], by simp only [shelfS, rg_of ha1 hb1, rg_of ha13 hb13, pz_none hI n25] <;> rfl⟩⟩
      · refine g_iload_n (by decide +kernel : decode prog_10_method_92_code 19 = .ok (.iload_n 2, 1)) rfl ?_
        refine g_if_neN (tgt := 31) (by decide +kernel : decode prog_10_method_92_code 20 = .ok (.ifCond .ne 11, 3)) (by decide) (by decide) (fun _ => ?_) (fun h => False.elim (by revert h; decide))
        refine g_iload_n (by decide +kernel : decode prog_10_method_92_code 31 = .ok (.iload_n 2, 1)) rfl ?_
        refine g_iconst (v := nI 1) (by decide +kernel : decode prog_10_method_92_code 32 = .ok (.iconst 1, 1)) (by decide) ?_
        refine g_icmp_neN (tgt := 45) (by decide +kernel : decode prog_10_method_92_code 33 = .ok (.if_icmp .ne 12, 3)) (by decide) (by decide) (by decide) (fun h => False.elim (by revert h; decide)) (fun _ => ?_)
        refine g_iload_n (by decide +kernel : decode prog_10_method_92_code 36 = .ok (.iload_n 3, 1)) rfl ?_
        refine g_callSI [.int z] (by decide +kernel : decode prog_10_method_92_code 37 = .ok (.invokestatic 240, 3)) lk_Md_240 (m_isSheet ΛM (mS σ f b) z) rfl rfl (Nat.le_of_ble_eq_true rfl) (Nat.le_of_ble_eq_true rfl) (fun r37 s37 h37 => ?_)
        rcases h37 with ⟨rfl, ⟨rfl, t, ha37, hb37, rfl⟩ | ⟨rfl, n37⟩⟩
        · refine g_if_neN (tgt := 45) (by decide +kernel : decode prog_10_method_92_code 40 = .ok (.ifCond .ne 5, 3)) (by decide) (by decide) (fun _ => ?_) (fun h => False.elim (by revert h; decide))
          refine g_iload_n (by decide +kernel : decode prog_10_method_92_code 45 = .ok (.iload_n 2, 1)) rfl ?_
          refine g_iconst (v := nI 1) (by decide +kernel : decode prog_10_method_92_code 46 = .ok (.iconst 1, 1)) (by decide) ?_
          refine g_icmp_neN (tgt := 63) (by decide +kernel : decode prog_10_method_92_code 47 = .ok (.if_icmp .ne 16, 3)) (by decide) (by decide) (by decide) (fun h => False.elim (by revert h; decide)) (fun _ => ?_)
          rcases (hS t (by omega)).1 with e8 | ⟨s, hs, e8⟩
          · refine g_aload_n (by decide +kernel : decode prog_10_method_92_code 50 = .ok (.aload_n 0, 1)) rfl ?_
            refine g_getR (by decide +kernel : decode prog_10_method_92_code 51 = .ok (.getfield 31, 3)) fl_Md_31 rfl rfl ?_
            refine g_iload_n (by decide +kernel : decode prog_10_method_92_code 54 = .ok (.iload_n 3, 1)) rfl ?_
            refine g_iaload (a := t) (by decide +kernel : decode prog_10_method_92_code 55 = .ok (.iaload, 1)) rfl rfl (by omega) (by decide) ?_
            refine g_top (w := (-1)) (e8) ?_
            refine g_if_lt (tgt := 63) (by decide +kernel : decode prog_10_method_92_code 56 = .ok (.ifCond .lt 7, 3)) (by decide) (fun _ => ?_) (fun h => False.elim (by revert h; decide))
            refine g_iconst (v := nI 0) (by decide +kernel : decode prog_10_method_92_code 63 = .ok (.iconst 0, 1)) (by decide) ?_
            refine g_istore (L' := [some (.ref 0), some (.int (nI h)), some (.int (nI 1)), some (.int (nI t)), some (.int (nI 0))]) (by decide +kernel : decode prog_10_method_92_code 64 = .ok (.istore 4, 2)) (Nat.le_of_ble_eq_true rfl) rfl ?_
            refine g_aload_n (by decide +kernel : decode prog_10_method_92_code 66 = .ok (.aload_n 0, 1)) rfl ?_
            refine g_getR (by decide +kernel : decode prog_10_method_92_code 67 = .ok (.getfield 40, 3)) fl_Md_40 rfl rfl ?_
            refine g_iload_n (by decide +kernel : decode prog_10_method_92_code 70 = .ok (.iload_n 1, 1)) rfl ?_
            refine g_iload_n (by decide +kernel : decode prog_10_method_92_code 71 = .ok (.iload_n 2, 1)) rfl ?_
            refine g_if_neN (tgt := 79) (by decide +kernel : decode prog_10_method_92_code 72 = .ok (.ifCond .ne 7, 3)) (by decide) (by decide) (fun _ => ?_) (fun h => False.elim (by revert h; decide))
            refine g_iload (by decide +kernel : decode prog_10_method_92_code 79 = .ok (.iload 4, 2)) rfl ?_
            refine g_if_eqN (tgt := 88) (by decide +kernel : decode prog_10_method_92_code 81 = .ok (.ifCond .eq 7, 3)) (by decide) (by decide) (fun _ => ?_) (fun h => False.elim (by revert h; decide))
            refine g_iconst (v := nI 0) (by decide +kernel : decode prog_10_method_92_code 88 = .ok (.iconst 0, 1)) (by decide) ?_
            refine g_iastore (a := h) (by decide +kernel : decode prog_10_method_92_code 89 = .ok (.iastore, 1)) rfl rfl (by omega) (by decide) ?_
            refine g_sto (mS_uk _ _ _ _ _ (by decide) (by decide)) ?_
            refine g_aload_n (by decide +kernel : decode prog_10_method_92_code 90 = .ok (.aload_n 0, 1)) rfl ?_
            refine g_getR (by decide +kernel : decode prog_10_method_92_code 91 = .ok (.getfield 43, 3)) fl_Md_43 rfl rfl ?_
            refine g_iload_n (by decide +kernel : decode prog_10_method_92_code 94 = .ok (.iload_n 1, 1)) rfl ?_
            refine g_iload_n (by decide +kernel : decode prog_10_method_92_code 95 = .ok (.iload_n 2, 1)) rfl ?_
            refine g_if_neN (tgt := 103) (by decide +kernel : decode prog_10_method_92_code 96 = .ok (.ifCond .ne 7, 3)) (by decide) (by decide) (fun _ => ?_) (fun h => False.elim (by revert h; decide))
            refine g_iload (by decide +kernel : decode prog_10_method_92_code 103 = .ok (.iload 4, 2)) rfl ?_
            refine g_if_eqN (tgt := 117) (by decide +kernel : decode prog_10_method_92_code 105 = .ok (.ifCond .eq 12, 3)) (by decide) (by decide) (fun _ => ?_) (fun h => False.elim (by revert h; decide))
            refine g_iconst (v := nI 0) (by decide +kernel : decode prog_10_method_92_code 117 = .ok (.iconst 0, 1)) (by decide) ?_
            refine g_iastore (a := h) (by decide +kernel : decode prog_10_method_92_code 118 = .ok (.iastore, 1)) rfl rfl (by omega) (by decide) ?_
            refine g_sto (mS_uk _ _ _ _ _ (by decide) (by decide)) ?_
            refine g_aload_n (by decide +kernel : decode prog_10_method_92_code 119 = .ok (.aload_n 0, 1)) rfl ?_
            refine g_getR (by decide +kernel : decode prog_10_method_92_code 120 = .ok (.getfield 46, 3)) fl_Md_46 rfl rfl ?_
            refine g_iload_n (by decide +kernel : decode prog_10_method_92_code 123 = .ok (.iload_n 1, 1)) rfl ?_
            refine g_iload (by decide +kernel : decode prog_10_method_92_code 124 = .ok (.iload 4, 2)) rfl ?_
            refine g_if_eqN (tgt := 138) (by decide +kernel : decode prog_10_method_92_code 126 = .ok (.ifCond .eq 12, 3)) (by decide) (by decide) (fun _ => ?_) (fun h => False.elim (by revert h; decide))
            refine g_iconst (v := nI 0) (by decide +kernel : decode prog_10_method_92_code 138 = .ok (.iconst 0, 1)) (by decide) ?_
            refine g_iastore (a := h) (by decide +kernel : decode prog_10_method_92_code 139 = .ok (.iastore, 1)) rfl rfl (by omega) (by decide) ?_
            refine g_sto (mS_uk _ _ _ _ _ (by decide) (by decide)) ?_
            refine g_iconst (v := nI 1) (by decide +kernel : decode prog_10_method_92_code 140 = .ok (.iconst 1, 1)) (by decide) ?_
            exact g_iret hR (by decide +kernel : decode prog_10_method_92_code 141 = .ok (.ireturn, 1)) rfl ⟨_, rfl, ⟨by simp only [shelfV, rg_of ha1 hb1, rg_of ha13 hb13, rg_of ha37 hb37], by simp only [shelfS, rg_of ha1 hb1, rg_of ha13 hb13, rg_of ha37 hb37, neg8 e8] <;> rfl⟩⟩
          · refine g_aload_n (by decide +kernel : decode prog_10_method_92_code 50 = .ok (.aload_n 0, 1)) rfl ?_
            refine g_getR (by decide +kernel : decode prog_10_method_92_code 51 = .ok (.getfield 31, 3)) fl_Md_31 rfl rfl ?_
            refine g_iload_n (by decide +kernel : decode prog_10_method_92_code 54 = .ok (.iload_n 3, 1)) rfl ?_
            refine g_iaload (a := t) (by decide +kernel : decode prog_10_method_92_code 55 = .ok (.iaload, 1)) rfl rfl (by omega) (by decide) ?_
            refine g_top (w := nI s) (e8) ?_
            refine g_if_ltN (by decide +kernel : decode prog_10_method_92_code 56 = .ok (.ifCond .lt 7, 3)) (by decide) (by omega) ?_
            refine g_iconst (v := nI 1) (by decide +kernel : decode prog_10_method_92_code 59 = .ok (.iconst 1, 1)) (by decide) ?_
            refine g_goto (tgt := 64) (by decide +kernel : decode prog_10_method_92_code 60 = .ok (.goto 4, 3)) (by decide) ?_
            refine g_istore (L' := [some (.ref 0), some (.int (nI h)), some (.int (nI 1)), some (.int (nI t)), some (.int (nI 1))]) (by decide +kernel : decode prog_10_method_92_code 64 = .ok (.istore 4, 2)) (Nat.le_of_ble_eq_true rfl) rfl ?_
            refine g_aload_n (by decide +kernel : decode prog_10_method_92_code 66 = .ok (.aload_n 0, 1)) rfl ?_
            refine g_getR (by decide +kernel : decode prog_10_method_92_code 67 = .ok (.getfield 40, 3)) fl_Md_40 rfl rfl ?_
            refine g_iload_n (by decide +kernel : decode prog_10_method_92_code 70 = .ok (.iload_n 1, 1)) rfl ?_
            refine g_iload_n (by decide +kernel : decode prog_10_method_92_code 71 = .ok (.iload_n 2, 1)) rfl ?_
            refine g_if_neN (tgt := 79) (by decide +kernel : decode prog_10_method_92_code 72 = .ok (.ifCond .ne 7, 3)) (by decide) (by decide) (fun _ => ?_) (fun h => False.elim (by revert h; decide))
            refine g_iload (by decide +kernel : decode prog_10_method_92_code 79 = .ok (.iload 4, 2)) rfl ?_
            refine g_if_eqN (tgt := 88) (by decide +kernel : decode prog_10_method_92_code 81 = .ok (.ifCond .eq 7, 3)) (by decide) (by decide) (fun h => False.elim (by revert h; decide)) (fun _ => ?_)
            refine g_iconst (v := nI 2) (by decide +kernel : decode prog_10_method_92_code 84 = .ok (.iconst 2, 1)) (by decide) ?_
            refine g_goto (tgt := 89) (by decide +kernel : decode prog_10_method_92_code 85 = .ok (.goto 4, 3)) (by decide) ?_
            refine g_iastore (a := h) (by decide +kernel : decode prog_10_method_92_code 89 = .ok (.iastore, 1)) rfl rfl (by omega) (by decide) ?_
            refine g_sto (mS_uk _ _ _ _ _ (by decide) (by decide)) ?_
            refine g_aload_n (by decide +kernel : decode prog_10_method_92_code 90 = .ok (.aload_n 0, 1)) rfl ?_
            refine g_getR (by decide +kernel : decode prog_10_method_92_code 91 = .ok (.getfield 43, 3)) fl_Md_43 rfl rfl ?_
            refine g_iload_n (by decide +kernel : decode prog_10_method_92_code 94 = .ok (.iload_n 1, 1)) rfl ?_
            refine g_iload_n (by decide +kernel : decode prog_10_method_92_code 95 = .ok (.iload_n 2, 1)) rfl ?_
            refine g_if_neN (tgt := 103) (by decide +kernel : decode prog_10_method_92_code 96 = .ok (.ifCond .ne 7, 3)) (by decide) (by decide) (fun _ => ?_) (fun h => False.elim (by revert h; decide))
            refine g_iload (by decide +kernel : decode prog_10_method_92_code 103 = .ok (.iload 4, 2)) rfl ?_
            refine g_if_eqN (tgt := 117) (by decide +kernel : decode prog_10_method_92_code 105 = .ok (.ifCond .eq 12, 3)) (by decide) (by decide) (fun h => False.elim (by revert h; decide)) (fun _ => ?_)
            refine g_aload_n (by decide +kernel : decode prog_10_method_92_code 108 = .ok (.aload_n 0, 1)) rfl ?_
            refine g_getR (by decide +kernel : decode prog_10_method_92_code 109 = .ok (.getfield 31, 3)) fl_Md_31 rfl rfl ?_
            refine g_iload_n (by decide +kernel : decode prog_10_method_92_code 112 = .ok (.iload_n 3, 1)) rfl ?_
            refine g_iaload (a := t) (by decide +kernel : decode prog_10_method_92_code 113 = .ok (.iaload, 1)) rfl rfl (by omega) (by decide) ?_
            refine g_top (w := σ 8 t) (rfl) ?_
            refine g_goto (tgt := 118) (by decide +kernel : decode prog_10_method_92_code 114 = .ok (.goto 4, 3)) (by decide) ?_
            refine g_iastore (a := h) (by decide +kernel : decode prog_10_method_92_code 118 = .ok (.iastore, 1)) rfl rfl (by omega) (by decide) ?_
            refine g_sto (mS_uk _ _ _ _ _ (by decide) (by decide)) ?_
            refine g_aload_n (by decide +kernel : decode prog_10_method_92_code 119 = .ok (.aload_n 0, 1)) rfl ?_
            refine g_getR (by decide +kernel : decode prog_10_method_92_code 120 = .ok (.getfield 46, 3)) fl_Md_46 rfl rfl ?_
            refine g_iload_n (by decide +kernel : decode prog_10_method_92_code 123 = .ok (.iload_n 1, 1)) rfl ?_
            refine g_iload (by decide +kernel : decode prog_10_method_92_code 124 = .ok (.iload 4, 2)) rfl ?_
            refine g_if_eqN (tgt := 138) (by decide +kernel : decode prog_10_method_92_code 126 = .ok (.ifCond .eq 12, 3)) (by decide) (by decide) (fun h => False.elim (by revert h; decide)) (fun _ => ?_)
            refine g_aload_n (by decide +kernel : decode prog_10_method_92_code 129 = .ok (.aload_n 0, 1)) rfl ?_
            refine g_getR (by decide +kernel : decode prog_10_method_92_code 130 = .ok (.getfield 34, 3)) fl_Md_34 rfl rfl ?_
            refine g_iload_n (by decide +kernel : decode prog_10_method_92_code 133 = .ok (.iload_n 3, 1)) rfl ?_
            refine g_iaload (a := t) (by decide +kernel : decode prog_10_method_92_code 134 = .ok (.iaload, 1)) rfl rfl (by omega) (by decide) ?_
            refine g_top (w := σ 9 t) (rfl) ?_
            refine g_goto (tgt := 139) (by decide +kernel : decode prog_10_method_92_code 135 = .ok (.goto 4, 3)) (by decide) ?_
            refine g_iastore (a := h) (by decide +kernel : decode prog_10_method_92_code 139 = .ok (.iastore, 1)) rfl rfl (by omega) (by decide) ?_
            refine g_sto (mS_uk _ _ _ _ _ (by decide) (by decide)) ?_
            refine g_iconst (v := nI 1) (by decide +kernel : decode prog_10_method_92_code 140 = .ok (.iconst 1, 1)) (by decide) ?_
            exact g_iret hR (by decide +kernel : decode prog_10_method_92_code 141 = .ok (.ireturn, 1)) rfl ⟨_, rfl, ⟨by simp only [shelfV, rg_of ha1 hb1, rg_of ha13 hb13, rg_of ha37 hb37], by simp only [shelfS, rg_of ha1 hb1, rg_of ha13 hb13, rg_of ha37 hb37, pos8 hs e8] <;> rfl⟩⟩
        · refine g_if_neN (tgt := 45) (by decide +kernel : decode prog_10_method_92_code 40 = .ok (.ifCond .ne 5, 3)) (by decide) (by decide) (fun h => False.elim (by revert h; decide)) (fun _ => ?_)
          refine g_iconst (v := (-1)) (by decide +kernel : decode prog_10_method_92_code 43 = .ok (.iconst (-1), 1)) (by decide) ?_
          exact g_iret hR (by decide +kernel : decode prog_10_method_92_code 44 = .ok (.ireturn, 1)) rfl ⟨_, rfl, ⟨by simp only [shelfV, rg_of ha1 hb1, rg_of ha13 hb13, rg_none n37], by simp only [shelfS, rg_of ha1 hb1, rg_of ha13 hb13, rg_none n37] <;> rfl⟩⟩
      · refine g_iload_n (by decide +kernel : decode prog_10_method_92_code 19 = .ok (.iload_n 2, 1)) rfl ?_
        refine g_if_neN (tgt := 31) (by decide +kernel : decode prog_10_method_92_code 20 = .ok (.ifCond .ne 11, 3)) (by decide) (by decide) (fun _ => ?_) (fun h => False.elim (by revert h; decide))
        refine g_iload_n (by decide +kernel : decode prog_10_method_92_code 31 = .ok (.iload_n 2, 1)) rfl ?_
        refine g_iconst (v := nI 1) (by decide +kernel : decode prog_10_method_92_code 32 = .ok (.iconst 1, 1)) (by decide) ?_
        refine g_icmp_neN (tgt := 45) (by decide +kernel : decode prog_10_method_92_code 33 = .ok (.if_icmp .ne 12, 3)) (by decide) (by decide) (by decide) (fun _ => ?_) (fun h => False.elim (by revert h; decide))
        refine g_iload_n (by decide +kernel : decode prog_10_method_92_code 45 = .ok (.iload_n 2, 1)) rfl ?_
        refine g_iconst (v := nI 1) (by decide +kernel : decode prog_10_method_92_code 46 = .ok (.iconst 1, 1)) (by decide) ?_
        refine g_icmp_neN (tgt := 63) (by decide +kernel : decode prog_10_method_92_code 47 = .ok (.if_icmp .ne 16, 3)) (by decide) (by decide) (by decide) (fun _ => ?_) (fun h => False.elim (by revert h; decide))
        refine g_iconst (v := nI 0) (by decide +kernel : decode prog_10_method_92_code 63 = .ok (.iconst 0, 1)) (by decide) ?_
        refine g_istore (L' := [some (.ref 0), some (.int (nI h)), some (.int (nI 2)), some (.int z), some (.int (nI 0))]) (by decide +kernel : decode prog_10_method_92_code 64 = .ok (.istore 4, 2)) (Nat.le_of_ble_eq_true rfl) rfl ?_
        refine g_aload_n (by decide +kernel : decode prog_10_method_92_code 66 = .ok (.aload_n 0, 1)) rfl ?_
        refine g_getR (by decide +kernel : decode prog_10_method_92_code 67 = .ok (.getfield 40, 3)) fl_Md_40 rfl rfl ?_
        refine g_iload_n (by decide +kernel : decode prog_10_method_92_code 70 = .ok (.iload_n 1, 1)) rfl ?_
        refine g_iload_n (by decide +kernel : decode prog_10_method_92_code 71 = .ok (.iload_n 2, 1)) rfl ?_
        refine g_if_neN (tgt := 79) (by decide +kernel : decode prog_10_method_92_code 72 = .ok (.ifCond .ne 7, 3)) (by decide) (by decide) (fun _ => ?_) (fun h => False.elim (by revert h; decide))
        refine g_iload (by decide +kernel : decode prog_10_method_92_code 79 = .ok (.iload 4, 2)) rfl ?_
        refine g_if_eqN (tgt := 88) (by decide +kernel : decode prog_10_method_92_code 81 = .ok (.ifCond .eq 7, 3)) (by decide) (by decide) (fun _ => ?_) (fun h => False.elim (by revert h; decide))
        refine g_iconst (v := nI 0) (by decide +kernel : decode prog_10_method_92_code 88 = .ok (.iconst 0, 1)) (by decide) ?_
        refine g_iastore (a := h) (by decide +kernel : decode prog_10_method_92_code 89 = .ok (.iastore, 1)) rfl rfl (by omega) (by decide) ?_
        refine g_sto (mS_uk _ _ _ _ _ (by decide) (by decide)) ?_
        refine g_aload_n (by decide +kernel : decode prog_10_method_92_code 90 = .ok (.aload_n 0, 1)) rfl ?_
        refine g_getR (by decide +kernel : decode prog_10_method_92_code 91 = .ok (.getfield 43, 3)) fl_Md_43 rfl rfl ?_
        refine g_iload_n (by decide +kernel : decode prog_10_method_92_code 94 = .ok (.iload_n 1, 1)) rfl ?_
        refine g_iload_n (by decide +kernel : decode prog_10_method_92_code 95 = .ok (.iload_n 2, 1)) rfl ?_
        refine g_if_neN (tgt := 103) (by decide +kernel : decode prog_10_method_92_code 96 = .ok (.ifCond .ne 7, 3)) (by decide) (by decide) (fun _ => ?_) (fun h => False.elim (by revert h; decide))
        refine g_iload (by decide +kernel : decode prog_10_method_92_code 103 = .ok (.iload 4, 2)) rfl ?_
        refine g_if_eqN (tgt := 117) (by decide +kernel : decode prog_10_method_92_code 105 = .ok (.ifCond .eq 12, 3)) (by decide) (by decide) (fun _ => ?_) (fun h => False.elim (by revert h; decide))
        refine g_iconst (v := nI 0) (by decide +kernel : decode prog_10_method_92_code 117 = .ok (.iconst 0, 1)) (by decide) ?_
        refine g_iastore (a := h) (by decide +kernel : decode prog_10_method_92_code 118 = .ok (.iastore, 1)) rfl rfl (by omega) (by decide) ?_
        refine g_sto (mS_uk _ _ _ _ _ (by decide) (by decide)) ?_
        refine g_aload_n (by decide +kernel : decode prog_10_method_92_code 119 = .ok (.aload_n 0, 1)) rfl ?_
        refine g_getR (by decide +kernel : decode prog_10_method_92_code 120 = .ok (.getfield 46, 3)) fl_Md_46 rfl rfl ?_
        refine g_iload_n (by decide +kernel : decode prog_10_method_92_code 123 = .ok (.iload_n 1, 1)) rfl ?_
        refine g_iload (by decide +kernel : decode prog_10_method_92_code 124 = .ok (.iload 4, 2)) rfl ?_
        refine g_if_eqN (tgt := 138) (by decide +kernel : decode prog_10_method_92_code 126 = .ok (.ifCond .eq 12, 3)) (by decide) (by decide) (fun _ => ?_) (fun h => False.elim (by revert h; decide))
        refine g_iconst (v := nI 0) (by decide +kernel : decode prog_10_method_92_code 138 = .ok (.iconst 0, 1)) (by decide) ?_
        refine g_iastore (a := h) (by decide +kernel : decode prog_10_method_92_code 139 = .ok (.iastore, 1)) rfl rfl (by omega) (by decide) ?_
        refine g_sto (mS_uk _ _ _ _ _ (by decide) (by decide)) ?_
        refine g_iconst (v := nI 1) (by decide +kernel : decode prog_10_method_92_code 140 = .ok (.iconst 1, 1)) (by decide) ?_
        exact g_iret hR (by decide +kernel : decode prog_10_method_92_code 141 = .ok (.ireturn, 1)) rfl ⟨_, rfl, ⟨by simp only [shelfV, rg_of ha1 hb1, rg_of ha13 hb13], by simp only [shelfS, rg_of ha1 hb1, rg_of ha13 hb13] <;> rfl⟩⟩
    · refine g_if_eqN (tgt := 43) (by decide +kernel : decode prog_10_method_92_code 16 = .ok (.ifCond .eq 27, 3)) (by decide) (by decide) (fun _ => ?_) (fun h => False.elim (by revert h; decide))
      refine g_iconst (v := (-1)) (by decide +kernel : decode prog_10_method_92_code 43 = .ok (.iconst (-1), 1)) (by decide) ?_
      exact g_iret hR (by decide +kernel : decode prog_10_method_92_code 44 = .ok (.ireturn, 1)) rfl ⟨_, rfl, ⟨by simp only [shelfV, rg_of ha1 hb1, rg_none n13], by simp only [shelfS, rg_of ha1 hb1, rg_none n13] <;> rfl⟩⟩
  · refine g_if_eqN (tgt := 43) (by decide +kernel : decode prog_10_method_92_code 4 = .ok (.ifCond .eq 39, 3)) (by decide) (by decide) (fun _ => ?_) (fun h => False.elim (by revert h; decide))
    refine g_iconst (v := (-1)) (by decide +kernel : decode prog_10_method_92_code 43 = .ok (.iconst (-1), 1)) (by decide) ?_
    exact g_iret hR (by decide +kernel : decode prog_10_method_92_code 44 = .ok (.ireturn, 1)) rfl ⟨_, rfl, ⟨by simp only [shelfV, rg_none n1], by simp only [shelfS, rg_none n1] <;> rfl⟩⟩
