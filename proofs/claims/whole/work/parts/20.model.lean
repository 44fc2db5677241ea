/-! THE REFERENCE: sums, sets, the shortest round, what is kept -/
theorem mS_uk (σ : Store) (f b : Row) {k : Nat} (i : Nat) (v : Int32) (h1 : k ≠ 1) (h6 : k ≠ 6) : s_up (mS σ f b) k i v = mS (s_up σ k i v) f b := by
  funext c
  unfold mS s_up s_row
  by_cases e : c = k
  · subst e; simp [h1, h6]
  · simp [e]
/-- one number of all together -/
def smF (f : Row) (w : Nat) : Nat → Int32
  | 0 => nI 0
  | k + 1 => smF f w k + f (19 + 6 * k + w)
/-- places at which one is hidden, as a set -/
def hpl (f : Row) : Nat → Nat
  | 0 => 0
  | k + 1 => hpl f k ||| tn (f (19 + 6 * k + 4)) * 2 ^ tn (f (19 + 6 * k + 3))
theorem hpl_lt {f : Row} (h : Inv f) : ∀ k, k ≤ nn f → hpl f k < 4096 := by
  intro k
  induction k with
  | zero => intro _; show 0 < 4096; decide
  | succ k ih =>
    intro hk
    have h4 : tn (f (19 + 6 * k + 4)) ≤ 1 := (h.p (o := k) (by omega) 4).2
    have h3 : tn (f (19 + 6 * k + 3)) ≤ 11 := (h.p (o := k) (by omega) 3).2
    have h5 : 2 ^ tn (f (19 + 6 * k + 3)) ≤ 2 ^ 11 := Nat.pow_le_pow_right (by decide) h3
    have h6 : tn (f (19 + 6 * k + 4)) * 2 ^ tn (f (19 + 6 * k + 3)) ≤ 1 * 2 ^ 11 := Nat.mul_le_mul h4 h5
    show hpl f k ||| _ < 2 ^ 12
    exact Nat.or_lt_two_pow (ih (by omega)) (by omega)
def cvF (f : Row) : Nat → Int32
  | 0 => nI 0
  | k + 1 => cvF f k + f (7 + k)
def crw (f : Row) : Nat → Nat
  | 0 => 0
  | k + 1 => crw f k + (if 1 < popc (atm f (tn (f (19 + 6 * k + 3))) (nn f)) then 1 else 0)
theorem crw_le (f : Row) : ∀ k, crw f k ≤ k := by
  intro k
  induction k with
  | zero => exact Nat.le_refl _
  | succ k ih =>
    show crw f k + (if _ then _ else _) ≤ _
    split <;> omega
def stateV (f : Row) (x : Int32) : Int32 := match rg 0 5 x with
  | none => -1
  | some 0 => f 1
  | some 1 => nI (msk f (nn f))
  | some 2 => smF f 1 (nn f)
  | some 3 => smF f 5 (nn f)
  | some 4 => nI (hpl f (nn f))
  | some _ => cvF f 12
def manyV (σ : Store) (f : Row) (x : Int32) : Int32 := match rg 0 6 x with
  | none => -1
  | some 0 => f 0
  | some 1 => nI (hc f)
  | some 2 => nI (popc (hpl f (nn f)))
  | some 3 => nI (crw f (nn f))
  | some 4 => σ 0 14
  | some 5 => σ 0 6
  | some _ => σ 0 22
/-- a number by cases: below a, or from b on, or one of them -/
theorem sw_in (x : Int32) (n : Nat) (hn : n < 2 ^ 31) : (∃ j, j < n ∧ x = nI j) ∨ ((x.toInt < 0 ∨ (n : Int) ≤ x.toInt) ∧ ¬ ∃ j, j < n ∧ x = nI j) := by
  by_cases h : ∃ j, j < n ∧ x = nI j
  · exact Or.inl h
  · refine Or.inr ⟨?_, h⟩
    rcases pk_ix x hn with h1 | h1 | h1
    · left; rw [Int32.lt_iff_toInt_lt, Int32.toInt_zero] at h1; exact h1
    · right; rw [Int32.le_iff_toInt_le, nI_toInt hn] at h1; exact h1
    · exact absurd h1 h
theorem rg_no {n : Nat} {x : Int32} (h : ¬ ∃ j, j < n + 1 ∧ x = nI j) (hn : n < 2 ^ 31 := by decide) : rg 0 n x = none := rg_none (fun ⟨j, _, h1, h2⟩ => h ⟨j, by omega, h2⟩) hn (Nat.zero_le _)
theorem rg_yes (n j : Nat) (h : j ≤ n := by decide) (hn : n < 2 ^ 31 := by decide) : rg 0 n (nI j) = some j := rg_of (Nat.zero_le _) h hn
set_option maxRecDepth 20000 in
theorem m_sumOf_lp {X : CX} {σ : Store} {f b : Row} (hI : Inv f) {w : Nat} (hw : w < 6) : ∀ (b9 k : Nat), k ≤ nn f → nn f - k < b9 → Rt (ΛM, mt_Md_sumOf, 1) (PF (smF f w (nn f)) (mS σ f b)) X → G (ΛM, mt_Md_sumOf, 1) X (mS σ f b) [some (.ref 0), some (.int (nI w)), some (.int (smF f w k)), some (.int (nI k))] [] 4 := by
  have hn8 := hI.n.2
  intro b9
  induction b9 with
  | zero => intro k hk hb hR; omega
  | succ b9 ih =>
  intro k hk hb hR
  refine g_iload_n (by decide +kernel : decode prog_10_method_57_code 4 = .ok (.iload_n 3, 1)) rfl ?_
  refine g_aload_n (by decide +kernel : decode prog_10_method_57_code 5 = .ok (.aload_n 0, 1)) rfl ?_
  refine g_getR (by decide +kernel : decode prog_10_method_57_code 6 = .ok (.getfield 7, 3)) fl_Md_7 rfl rfl ?_
  refine g_iconst (v := nI 0) (by decide +kernel : decode prog_10_method_57_code 9 = .ok (.iconst 0, 1)) (by decide) ?_
  refine g_iaload (a := 0) (by decide +kernel : decode prog_10_method_57_code 10 = .ok (.iaload, 1)) rfl rfl (by decide) (by decide) ?_
  refine g_top (w := nI (nn f)) (hI.n.1) ?_
  refine g_icmp_geN (tgt := 29) (by decide +kernel : decode prog_10_method_57_code 11 = .ok (.if_icmp .ge 18, 3)) (by decide) (by omega) (by omega) (fun h11 => ?_) (fun h11 => ?_)
  · refine g_iload_n (by decide +kernel : decode prog_10_method_57_code 29 = .ok (.iload_n 2, 1)) rfl ?_
    exact g_iret hR (by decide +kernel : decode prog_10_method_57_code 30 = .ok (.ireturn, 1)) rfl ⟨_, rfl, ⟨by rw [show k = nn f by omega], rfl⟩⟩
  · refine g_iload_n (by decide +kernel : decode prog_10_method_57_code 14 = .ok (.iload_n 2, 1)) rfl ?_
    refine g_aload_n (by decide +kernel : decode prog_10_method_57_code 15 = .ok (.aload_n 0, 1)) rfl ?_
    refine g_iload_n (by decide +kernel : decode prog_10_method_57_code 16 = .ok (.iload_n 3, 1)) rfl ?_
    refine g_iload_n (by decide +kernel : decode prog_10_method_57_code 17 = .ok (.iload_n 1, 1)) rfl ?_
    refine g_callVI [.int (nI k), .int (nI w)] (by decide +kernel : decode prog_10_method_57_code 18 = .ok (.invokevirtual 169, 3)) lk_Md_169 (m_its (mS σ f b) k w (v := f (19 + 6 * k + w)) rfl (by omega)) rfl rfl rfl rfl (Nat.le_of_ble_eq_true rfl) (Nat.le_of_ble_eq_true rfl) (fun r18 s18 h18 => ?_)
    obtain ⟨rfl, rfl⟩ := h18
    refine g_iadd (by decide +kernel : decode prog_10_method_57_code 21 = .ok (.iadd, 1)) ?_
    refine g_istore_n (L' := [some (.ref 0), some (.int (nI w)), some (.int ((smF f w k) + (f (19 + 6 * k + w)))), some (.int (nI k))]) (by decide +kernel : decode prog_10_method_57_code 22 = .ok (.istore_n 2, 1)) (Nat.le_of_ble_eq_true rfl) rfl ?_
    refine g_iincN (n := 1) (L' := [some (.ref 0), some (.int (nI w)), some (.int ((smF f w k) + (f (19 + 6 * k + w)))), some (.int (nI (k + 1)))]) (by decide +kernel : decode prog_10_method_57_code 23 = .ok (.iinc 3 1, 3)) rfl (by decide) (Nat.le_of_ble_eq_true rfl) rfl ?_
    refine g_goto (tgt := 4) (by decide +kernel : decode prog_10_method_57_code 26 = .ok (.goto (-22), 3)) (by decide) ?_
    exact ih (k + 1) (by omega) (by omega) hR
set_option maxRecDepth 20000 in
theorem m_sumOf (σ : Store) (f b : Row) (hI : Inv f) (w : Nat) (hw : w < 6) : Ct ΛM mt_Md_sumOf 1 [.ref 0, .int (nI w)] (mS σ f b) (PF (smF f w (nn f)) (mS σ f b)) := by
  refine Ct.of (by decide) (Nat.le_of_ble_eq_true rfl) (fun X hR => ?_)
  show G (ΛM, mt_Md_sumOf, 1) X (mS σ f b) [some (.ref 0), some (.int (nI w)), none, none] [] 0
  refine g_iconst (v := nI 0) (by decide +kernel : decode prog_10_method_57_code 0 = .ok (.iconst 0, 1)) (by decide) ?_
  refine g_istore_n (L' := [some (.ref 0), some (.int (nI w)), some (.int (nI 0)), none]) (by decide +kernel : decode prog_10_method_57_code 1 = .ok (.istore_n 2, 1)) (Nat.le_of_ble_eq_true rfl) rfl ?_
  refine g_iconst (v := nI 0) (by decide +kernel : decode prog_10_method_57_code 2 = .ok (.iconst 0, 1)) (by decide) ?_
  refine g_istore_n (L' := [some (.ref 0), some (.int (nI w)), some (.int (nI 0)), some (.int (nI 0))]) (by decide +kernel : decode prog_10_method_57_code 3 = .ok (.istore_n 3, 1)) (Nat.le_of_ble_eq_true rfl) rfl ?_
  exact m_sumOf_lp hI hw (nn f + 1) 0 (Nat.zero_le _) (by omega) hR
set_option maxRecDepth 20000 in
theorem m_hpl_lp {X : CX} {σ : Store} {f b : Row} (hI : Inv f) : ∀ (b9 k : Nat), k ≤ nn f → nn f - k < b9 → Rt (ΛM, mt_Md_hidingPlaces, 1) (PF (nI (hpl f (nn f))) (mS σ f b)) X → G (ΛM, mt_Md_hidingPlaces, 1) X (mS σ f b) [some (.ref 0), some (.int (nI (hpl f k))), some (.int (nI k))] [] 4 := by
  have hn8 := hI.n.2
  intro b9
  induction b9 with
  | zero => intro k hk hb hR; omega
  | succ b9 ih =>
  intro k hk hb hR
  refine g_iload_n (by decide +kernel : decode prog_10_method_58_code 4 = .ok (.iload_n 2, 1)) rfl ?_
  refine g_aload_n (by decide +kernel : decode prog_10_method_58_code 5 = .ok (.aload_n 0, 1)) rfl ?_
  refine g_getR (by decide +kernel : decode prog_10_method_58_code 6 = .ok (.getfield 7, 3)) fl_Md_7 rfl rfl ?_
  refine g_iconst (v := nI 0) (by decide +kernel : decode prog_10_method_58_code 9 = .ok (.iconst 0, 1)) (by decide) ?_
  refine g_iaload (a := 0) (by decide +kernel : decode prog_10_method_58_code 10 = .ok (.iaload, 1)) rfl rfl (by decide) (by decide) ?_
  refine g_top (w := nI (nn f)) (hI.n.1) ?_
  refine g_icmp_geN (tgt := 36) (by decide +kernel : decode prog_10_method_58_code 11 = .ok (.if_icmp .ge 25, 3)) (by decide) (by omega) (by omega) (fun h11 => ?_) (fun h11 => ?_)
  · refine g_iload_n (by decide +kernel : decode prog_10_method_58_code 36 = .ok (.iload_n 1, 1)) rfl ?_
    exact g_iret hR (by decide +kernel : decode prog_10_method_58_code 37 = .ok (.ireturn, 1)) rfl ⟨_, rfl, ⟨by rw [show k = nn f by omega], rfl⟩⟩
  · refine g_iload_n (by decide +kernel : decode prog_10_method_58_code 14 = .ok (.iload_n 1, 1)) rfl ?_
    refine g_aload_n (by decide +kernel : decode prog_10_method_58_code 15 = .ok (.aload_n 0, 1)) rfl ?_
    refine g_iload_n (by decide +kernel : decode prog_10_method_58_code 16 = .ok (.iload_n 2, 1)) rfl ?_
    refine g_iconst (v := nI 4) (by decide +kernel : decode prog_10_method_58_code 17 = .ok (.iconst 4, 1)) (by decide) ?_
    refine g_callVI [.int (nI k), .int (nI 4)] (by decide +kernel : decode prog_10_method_58_code 18 = .ok (.invokevirtual 169, 3)) lk_Md_169 (m_its (mS σ f b) k 4 (hI.p (o := k) (by omega) 4).1 (by omega)) rfl rfl rfl rfl (Nat.le_of_ble_eq_true rfl) (Nat.le_of_ble_eq_true rfl) (fun r18 s18 h18 => ?_)
    obtain ⟨rfl, rfl⟩ := h18
    refine g_aload_n (by decide +kernel : decode prog_10_method_58_code 21 = .ok (.aload_n 0, 1)) rfl ?_
    refine g_iload_n (by decide +kernel : decode prog_10_method_58_code 22 = .ok (.iload_n 2, 1)) rfl ?_
    refine g_iconst (v := nI 3) (by decide +kernel : decode prog_10_method_58_code 23 = .ok (.iconst 3, 1)) (by decide) ?_
    refine g_callVI [.int (nI k), .int (nI 3)] (by decide +kernel : decode prog_10_method_58_code 24 = .ok (.invokevirtual 169, 3)) lk_Md_169 (m_its (mS σ f b) k 3 (hI.p (o := k) (by omega) 3).1 (by omega)) rfl rfl rfl rfl (Nat.le_of_ble_eq_true rfl) (Nat.le_of_ble_eq_true rfl) (fun r24 s24 h24 => ?_)
    obtain ⟨rfl, rfl⟩ := h24
    refine g_ishl (by decide +kernel : decode prog_10_method_58_code 27 = .ok (.ishl, 1)) ?_
    refine g_top (w := nI (tn (f (19 + 6 * k + 4)) * 2 ^ tn (f (19 + 6 * k + 3)))) (nI_shl1 ⟨_, Nat.lt_succ_of_le (hI.p (o := k) (by omega) 4).2⟩ ⟨_, Nat.lt_succ_of_le (hI.p (o := k) (by omega) 3).2⟩) ?_
    refine g_ior (by decide +kernel : decode prog_10_method_58_code 28 = .ok (.ior, 1)) ?_
    refine g_top (w := nI (hpl f (k + 1))) (by rw [nI_or]; rfl) ?_
    refine g_istore_n (L' := [some (.ref 0), some (.int (nI (hpl f (k + 1)))), some (.int (nI k))]) (by decide +kernel : decode prog_10_method_58_code 29 = .ok (.istore_n 1, 1)) (Nat.le_of_ble_eq_true rfl) rfl ?_
    refine g_iincN (n := 1) (L' := [some (.ref 0), some (.int (nI (hpl f (k + 1)))), some (.int (nI (k + 1)))]) (by decide +kernel : decode prog_10_method_58_code 30 = .ok (.iinc 2 1, 3)) rfl (by decide) (Nat.le_of_ble_eq_true rfl) rfl ?_
    refine g_goto (tgt := 4) (by decide +kernel : decode prog_10_method_58_code 33 = .ok (.goto (-29), 3)) (by decide) ?_
    exact ih (k + 1) (by omega) (by omega) hR
set_option maxRecDepth 20000 in
theorem m_hidingPlaces (σ : Store) (f b : Row) (hI : Inv f) : Ct ΛM mt_Md_hidingPlaces 1 [.ref 0] (mS σ f b) (PF (nI (hpl f (nn f))) (mS σ f b)) := by
  refine Ct.of (by decide) (Nat.le_of_ble_eq_true rfl) (fun X hR => ?_)
  show G (ΛM, mt_Md_hidingPlaces, 1) X (mS σ f b) [some (.ref 0), none, none] [] 0
  refine g_iconst (v := nI 0) (by decide +kernel : decode prog_10_method_58_code 0 = .ok (.iconst 0, 1)) (by decide) ?_
  refine g_istore_n (L' := [some (.ref 0), some (.int (nI 0)), none]) (by decide +kernel : decode prog_10_method_58_code 1 = .ok (.istore_n 1, 1)) (Nat.le_of_ble_eq_true rfl) rfl ?_
  refine g_iconst (v := nI 0) (by decide +kernel : decode prog_10_method_58_code 2 = .ok (.iconst 0, 1)) (by decide) ?_
  refine g_istore_n (L' := [some (.ref 0), some (.int (nI 0)), some (.int (nI 0))]) (by decide +kernel : decode prog_10_method_58_code 3 = .ok (.istore_n 2, 1)) (Nat.le_of_ble_eq_true rfl) rfl ?_
  exact m_hpl_lp hI (nn f + 1) 0 (Nat.zero_le _) (by omega) hR
set_option maxRecDepth 20000 in
theorem m_cv_lp {X : CX} {σ : Store} {f b : Row} : ∀ (b9 k : Nat), k ≤ 12 → 12 - k < b9 → Rt (ΛM, mt_Md_coverOfAll, 0) (PF (cvF f 12) (mS σ f b)) X → G (ΛM, mt_Md_coverOfAll, 0) X (mS σ f b) [some (.ref 0), some (.int (cvF f k)), some (.int (nI k))] [] 4 := by
  intro b9
  induction b9 with
  | zero => intro k hk hb hR; omega
  | succ b9 ih =>
  intro k hk hb hR
  refine g_iload_n (by decide +kernel : decode prog_10_method_59_code 4 = .ok (.iload_n 2, 1)) rfl ?_
  refine g_bipush (v := nI 12) (by decide +kernel : decode prog_10_method_59_code 5 = .ok (.bipush 12, 2)) (by decide) ?_
  refine g_icmp_geN (tgt := 28) (by decide +kernel : decode prog_10_method_59_code 7 = .ok (.if_icmp .ge 21, 3)) (by decide) (by omega) (by decide) (fun h7 => ?_) (fun h7 => ?_)
  · refine g_iload_n (by decide +kernel : decode prog_10_method_59_code 28 = .ok (.iload_n 1, 1)) rfl ?_
    exact g_iret hR (by decide +kernel : decode prog_10_method_59_code 29 = .ok (.ireturn, 1)) rfl ⟨_, rfl, ⟨by rw [show k = 12 by omega], rfl⟩⟩
  · refine g_iload_n (by decide +kernel : decode prog_10_method_59_code 10 = .ok (.iload_n 1, 1)) rfl ?_
    refine g_aload_n (by decide +kernel : decode prog_10_method_59_code 11 = .ok (.aload_n 0, 1)) rfl ?_
    refine g_getR (by decide +kernel : decode prog_10_method_59_code 12 = .ok (.getfield 7, 3)) fl_Md_7 rfl rfl ?_
    refine g_bipush (v := nI 7) (by decide +kernel : decode prog_10_method_59_code 15 = .ok (.bipush 7, 2)) (by decide) ?_
    refine g_iload_n (by decide +kernel : decode prog_10_method_59_code 17 = .ok (.iload_n 2, 1)) rfl ?_
    refine g_iaddN (by decide +kernel : decode prog_10_method_59_code 18 = .ok (.iadd, 1)) ?_
    refine g_iaload (a := 7 + k) (by decide +kernel : decode prog_10_method_59_code 19 = .ok (.iaload, 1)) rfl rfl (by omega) (by decide) ?_
    refine g_top (w := f (7 + k)) (rfl) ?_
    refine g_iadd (by decide +kernel : decode prog_10_method_59_code 20 = .ok (.iadd, 1)) ?_
    refine g_istore_n (L' := [some (.ref 0), some (.int ((cvF f k) + (f (7 + k)))), some (.int (nI k))]) (by decide +kernel : decode prog_10_method_59_code 21 = .ok (.istore_n 1, 1)) (Nat.le_of_ble_eq_true rfl) rfl ?_
    refine g_iincN (n := 1) (L' := [some (.ref 0), some (.int ((cvF f k) + (f (7 + k)))), some (.int (nI (k + 1)))]) (by decide +kernel : decode prog_10_method_59_code 22 = .ok (.iinc 2 1, 3)) rfl (by decide) (Nat.le_of_ble_eq_true rfl) rfl ?_
    refine g_goto (tgt := 4) (by decide +kernel : decode prog_10_method_59_code 25 = .ok (.goto (-21), 3)) (by decide) ?_
    exact ih (k + 1) (by omega) (by omega) hR
set_option maxRecDepth 20000 in
theorem m_coverOfAll (σ : Store) (f b : Row)  : Ct ΛM mt_Md_coverOfAll 0 [.ref 0] (mS σ f b) (PF (cvF f 12) (mS σ f b)) := by
  refine Ct.of (by decide) (Nat.le_of_ble_eq_true rfl) (fun X hR => ?_)
  show G (ΛM, mt_Md_coverOfAll, 0) X (mS σ f b) [some (.ref 0), none, none] [] 0
  refine g_iconst (v := nI 0) (by decide +kernel : decode prog_10_method_59_code 0 = .ok (.iconst 0, 1)) (by decide) ?_
  refine g_istore_n (L' := [some (.ref 0), some (.int (nI 0)), none]) (by decide +kernel : decode prog_10_method_59_code 1 = .ok (.istore_n 1, 1)) (Nat.le_of_ble_eq_true rfl) rfl ?_
  refine g_iconst (v := nI 0) (by decide +kernel : decode prog_10_method_59_code 2 = .ok (.iconst 0, 1)) (by decide) ?_
  refine g_istore_n (L' := [some (.ref 0), some (.int (nI 0)), some (.int (nI 0))]) (by decide +kernel : decode prog_10_method_59_code 3 = .ok (.istore_n 2, 1)) (Nat.le_of_ble_eq_true rfl) rfl ?_
  exact m_cv_lp 13 0 (Nat.zero_le _) (by omega) hR
set_option maxRecDepth 20000 in
theorem m_crw_lp {X : CX} {σ : Store} {f b : Row} (hI : Inv f) : ∀ (b9 k : Nat), k ≤ nn f → nn f - k < b9 → Rt (ΛM, mt_Md_crowded, 2) (PF (nI (crw f (nn f))) (mS σ f b)) X → G (ΛM, mt_Md_crowded, 2) X (mS σ f b) [some (.ref 0), some (.int (nI (crw f k))), some (.int (nI k))] [] 4 := by
  have hn8 := hI.n.2
  intro b9
  induction b9 with
  | zero => intro k hk hb hR; omega
  | succ b9 ih =>
  intro k hk hb hR
  have hl := crw_le f k
  have hpw : 2 ^ nn f ≤ 256 := Nat.pow_le_pow_right (n := 2) (by decide) hn8
  refine g_iload_n (by decide +kernel : decode prog_10_method_107_code 4 = .ok (.iload_n 2, 1)) rfl ?_
  refine g_aload_n (by decide +kernel : decode prog_10_method_107_code 5 = .ok (.aload_n 0, 1)) rfl ?_
  refine g_getR (by decide +kernel : decode prog_10_method_107_code 6 = .ok (.getfield 7, 3)) fl_Md_7 rfl rfl ?_
  refine g_iconst (v := nI 0) (by decide +kernel : decode prog_10_method_107_code 9 = .ok (.iconst 0, 1)) (by decide) ?_
  refine g_iaload (a := 0) (by decide +kernel : decode prog_10_method_107_code 10 = .ok (.iaload, 1)) rfl rfl (by decide) (by decide) ?_
  refine g_top (w := nI (nn f)) (hI.n.1) ?_
  refine g_icmp_geN (tgt := 45) (by decide +kernel : decode prog_10_method_107_code 11 = .ok (.if_icmp .ge 34, 3)) (by decide) (by first | omega | (have h9 := popc_le (atm f (tn (f (19 + 6 * k + 3))) (nn f)); omega)) (by first | omega | (have h9 := popc_le (atm f (tn (f (19 + 6 * k + 3))) (nn f)); omega)) (fun h11 => ?_) (fun h11 => ?_)
  · refine g_iload_n (by decide +kernel : decode prog_10_method_107_code 45 = .ok (.iload_n 1, 1)) rfl ?_
    exact g_iret hR (by decide +kernel : decode prog_10_method_107_code 46 = .ok (.ireturn, 1)) rfl ⟨_, rfl, ⟨by rw [show k = nn f by omega], rfl⟩⟩
  · refine g_iload_n (by decide +kernel : decode prog_10_method_107_code 14 = .ok (.iload_n 1, 1)) rfl ?_
    refine g_aload_n (by decide +kernel : decode prog_10_method_107_code 15 = .ok (.aload_n 0, 1)) rfl ?_
    refine g_aload_n (by decide +kernel : decode prog_10_method_107_code 16 = .ok (.aload_n 0, 1)) rfl ?_
    refine g_iload_n (by decide +kernel : decode prog_10_method_107_code 17 = .ok (.iload_n 2, 1)) rfl ?_
    refine g_iconst (v := nI 3) (by decide +kernel : decode prog_10_method_107_code 18 = .ok (.iconst 3, 1)) (by decide) ?_
    refine g_callVI [.int (nI k), .int (nI 3)] (by decide +kernel : decode prog_10_method_107_code 19 = .ok (.invokevirtual 169, 3)) lk_Md_169 (m_its (mS σ f b) k 3 (hI.p (o := k) (by omega) 3).1 (by omega)) rfl rfl rfl rfl (Nat.le_of_ble_eq_true rfl) (Nat.le_of_ble_eq_true rfl) (fun r19 s19 h19 => ?_)
    obtain ⟨rfl, rfl⟩ := h19
    refine g_callVI [.int (nI (tn (f (19 + 6 * k + 3))))] (by decide +kernel : decode prog_10_method_107_code 22 = .ok (.invokevirtual 186, 3)) lk_Md_186 (m_thoseAt σ f b hI (tn (f (19 + 6 * k + 3))) (Nat.lt_succ_of_le (hI.p (o := k) (by omega) 3).2)) rfl rfl rfl rfl (Nat.le_of_ble_eq_true rfl) (Nat.le_of_ble_eq_true rfl) (fun r22 s22 h22 => ?_)
    obtain ⟨rfl, rfl⟩ := h22
    refine g_callSI [.int (nI (atm f (tn (f (19 + 6 * k + 3))) (nn f)))] (by decide +kernel : decode prog_10_method_107_code 25 = .ok (.invokestatic 192, 3)) lk_Md_192 (m_size ΛM (mS σ f b) (atm f (tn (f (19 + 6 * k + 3))) (nn f)) (Nat.lt_of_lt_of_le (atm_lt f _ _) (Nat.le_trans hpw (by decide)))) rfl rfl (Nat.le_of_ble_eq_true rfl) (Nat.le_of_ble_eq_true rfl) (fun r25 s25 h25 => ?_)
    obtain ⟨rfl, rfl⟩ := h25
    refine g_iconst (v := nI 1) (by decide +kernel : decode prog_10_method_107_code 28 = .ok (.iconst 1, 1)) (by decide) ?_
    have J29 : G (ΛM, mt_Md_crowded, 2) X (mS σ f b) [some (.ref 0), some (.int (nI (crw f k))), some (.int (nI k))] [.int (nI (if 1 < popc (atm f (tn (f (19 + 6 * k + 3))) (nn f)) then 1 else 0)), .int (nI (crw f k))] 37 := by
      refine g_iaddN (by decide +kernel : decode prog_10_method_107_code 37 = .ok (.iadd, 1)) ?_
      refine g_istore_n (L' := [some (.ref 0), some (.int (nI (crw f k + (if 1 < popc (atm f (tn (f (19 + 6 * k + 3))) (nn f)) then 1 else 0)))), some (.int (nI k))]) (by decide +kernel : decode prog_10_method_107_code 38 = .ok (.istore_n 1, 1)) (Nat.le_of_ble_eq_true rfl) rfl ?_
      refine g_iincN (n := 1) (L' := [some (.ref 0), some (.int (nI (crw f k + (if 1 < popc (atm f (tn (f (19 + 6 * k + 3))) (nn f)) then 1 else 0)))), some (.int (nI (k + 1)))]) (by decide +kernel : decode prog_10_method_107_code 39 = .ok (.iinc 2 1, 3)) rfl (by decide) (Nat.le_of_ble_eq_true rfl) rfl ?_
      refine g_goto (tgt := 4) (by decide +kernel : decode prog_10_method_107_code 42 = .ok (.goto (-38), 3)) (by decide) ?_
      exact ih (k + 1) (by omega) (by omega) hR
    refine g_icmp_leN (tgt := 36) (by decide +kernel : decode prog_10_method_107_code 29 = .ok (.if_icmp .le 7, 3)) (by decide) (by first | omega | (have h9 := popc_le (atm f (tn (f (19 + 6 * k + 3))) (nn f)); omega)) (by decide) (fun h29 => ?_) (fun h29 => ?_)
    · refine g_iconst (v := nI 0) (by decide +kernel : decode prog_10_method_107_code 36 = .ok (.iconst 0, 1)) (by decide) ?_
      exact g_top (by rw [if_neg (by omega)]) J29
    · refine g_iconst (v := nI 1) (by decide +kernel : decode prog_10_method_107_code 32 = .ok (.iconst 1, 1)) (by decide) ?_
      refine g_goto (tgt := 37) (by decide +kernel : decode prog_10_method_107_code 33 = .ok (.goto 4, 3)) (by decide) ?_
      exact g_top (by rw [if_pos (by omega)]) J29
set_option maxRecDepth 20000 in
theorem m_crowded (σ : Store) (f b : Row) (hI : Inv f) : Ct ΛM mt_Md_crowded 2 [.ref 0] (mS σ f b) (PF (nI (crw f (nn f))) (mS σ f b)) := by
  refine Ct.of (by decide) (Nat.le_of_ble_eq_true rfl) (fun X hR => ?_)
  show G (ΛM, mt_Md_crowded, 2) X (mS σ f b) [some (.ref 0), none, none] [] 0
  refine g_iconst (v := nI 0) (by decide +kernel : decode prog_10_method_107_code 0 = .ok (.iconst 0, 1)) (by decide) ?_
  refine g_istore_n (L' := [some (.ref 0), some (.int (nI 0)), none]) (by decide +kernel : decode prog_10_method_107_code 1 = .ok (.istore_n 1, 1)) (Nat.le_of_ble_eq_true rfl) rfl ?_
  refine g_iconst (v := nI 0) (by decide +kernel : decode prog_10_method_107_code 2 = .ok (.iconst 0, 1)) (by decide) ?_
  refine g_istore_n (L' := [some (.ref 0), some (.int (nI 0)), some (.int (nI 0))]) (by decide +kernel : decode prog_10_method_107_code 3 = .ok (.istore_n 2, 1)) (Nat.le_of_ble_eq_true rfl) rfl ?_
  exact m_crw_lp hI (nn f + 1) 0 (Nat.zero_le _) (by omega) hR
set_option maxRecDepth 20000 in
theorem p_state (σ : Store) (f b : Row) (hI : Inv f) (x : Int32) : Ct ΛM mt_Md_state 2 [.ref 0, .int x] (mS σ f b) (mP σ (stateV f x) f) := by
  refine Ct.of (by decide) (Nat.le_of_ble_eq_true rfl) (fun X hR => ?_)
  show G (ΛM, mt_Md_state, 2) X (mS σ f b) [some (.ref 0), some (.int x)] [] 0
  have hn8 := hI.n.2
  refine g_iload_n (by decide +kernel : decode prog_10_method_60_code 0 = .ok (.iload_n 1, 1)) rfl ?_
  rcases sw_in x 6 (by decide) with ⟨j, hj, rfl⟩ | ⟨ho, hno⟩
  · rcases (show j = 0 ∨ j = 1 ∨ j = 2 ∨ j = 3 ∨ j = 4 ∨ j = 5 by omega) with rfl | rfl | rfl | rfl | rfl | rfl
    · refine g_tableIn (x := nI 0) (off := 39) (tgt := 40) (by decide +kernel : decode prog_10_method_60_code 1 = .ok (.tableswitch 73 0 5 #[39, 46, 51, 57, 63, 68], 39)) (by decide) (by decide) rfl (by decide) ?_
      refine g_aload_n (by decide +kernel : decode prog_10_method_60_code 40 = .ok (.aload_n 0, 1)) rfl ?_
      refine g_getR (by decide +kernel : decode prog_10_method_60_code 41 = .ok (.getfield 7, 3)) fl_Md_7 rfl rfl ?_
      refine g_iconst (v := nI 1) (by decide +kernel : decode prog_10_method_60_code 44 = .ok (.iconst 1, 1)) (by decide) ?_
      refine g_iaload (a := 1) (by decide +kernel : decode prog_10_method_60_code 45 = .ok (.iaload, 1)) rfl rfl (by decide) (by decide) ?_
      refine g_top (w := f 1) (rfl) ?_
      exact g_iret hR (by decide +kernel : decode prog_10_method_60_code 46 = .ok (.ireturn, 1)) rfl ⟨_, rfl, ⟨by simp only [stateV, rg_yes 5 0], Jk.self _ _ _⟩⟩
    · refine g_tableIn (x := nI 1) (off := 46) (tgt := 47) (by decide +kernel : decode prog_10_method_60_code 1 = .ok (.tableswitch 73 0 5 #[39, 46, 51, 57, 63, 68], 39)) (by decide) (by decide) rfl (by decide) ?_
      refine g_aload_n (by decide +kernel : decode prog_10_method_60_code 47 = .ok (.aload_n 0, 1)) rfl ?_
      refine g_callVI [] (by decide +kernel : decode prog_10_method_60_code 48 = .ok (.invokevirtual 189, 3)) lk_Md_189 (m_hiddenOnes σ f b hI) rfl rfl rfl rfl (Nat.le_of_ble_eq_true rfl) (Nat.le_of_ble_eq_true rfl) (fun r48 s48 h48 => ?_)
      obtain ⟨rfl, rfl⟩ := h48
      exact g_iret hR (by decide +kernel : decode prog_10_method_60_code 51 = .ok (.ireturn, 1)) rfl ⟨_, rfl, ⟨by simp only [stateV, rg_yes 5 1], Jk.self _ _ _⟩⟩
    · refine g_tableIn (x := nI 2) (off := 51) (tgt := 52) (by decide +kernel : decode prog_10_method_60_code 1 = .ok (.tableswitch 73 0 5 #[39, 46, 51, 57, 63, 68], 39)) (by decide) (by decide) rfl (by decide) ?_
      refine g_aload_n (by decide +kernel : decode prog_10_method_60_code 52 = .ok (.aload_n 0, 1)) rfl ?_
      refine g_iconst (v := nI 1) (by decide +kernel : decode prog_10_method_60_code 53 = .ok (.iconst 1, 1)) (by decide) ?_
      refine g_callVI [.int (nI 1)] (by decide +kernel : decode prog_10_method_60_code 54 = .ok (.invokevirtual 219, 3)) lk_Md_219 (m_sumOf σ f b hI 1 (by decide)) rfl rfl rfl rfl (Nat.le_of_ble_eq_true rfl) (Nat.le_of_ble_eq_true rfl) (fun r54 s54 h54 => ?_)
      obtain ⟨rfl, rfl⟩ := h54
      exact g_iret hR (by decide +kernel : decode prog_10_method_60_code 57 = .ok (.ireturn, 1)) rfl ⟨_, rfl, ⟨by simp only [stateV, rg_yes 5 2], Jk.self _ _ _⟩⟩
    · refine g_tableIn (x := nI 3) (off := 57) (tgt := 58) (by decide +kernel : decode prog_10_method_60_code 1 = .ok (.tableswitch 73 0 5 #[39, 46, 51, 57, 63, 68], 39)) (by decide) (by decide) rfl (by decide) ?_
      refine g_aload_n (by decide +kernel : decode prog_10_method_60_code 58 = .ok (.aload_n 0, 1)) rfl ?_
      refine g_iconst (v := nI 5) (by decide +kernel : decode prog_10_method_60_code 59 = .ok (.iconst 5, 1)) (by decide) ?_
      refine g_callVI [.int (nI 5)] (by decide +kernel : decode prog_10_method_60_code 60 = .ok (.invokevirtual 219, 3)) lk_Md_219 (m_sumOf σ f b hI 5 (by decide)) rfl rfl rfl rfl (Nat.le_of_ble_eq_true rfl) (Nat.le_of_ble_eq_true rfl) (fun r60 s60 h60 => ?_)
      obtain ⟨rfl, rfl⟩ := h60
      exact g_iret hR (by decide +kernel : decode prog_10_method_60_code 63 = .ok (.ireturn, 1)) rfl ⟨_, rfl, ⟨by simp only [stateV, rg_yes 5 3], Jk.self _ _ _⟩⟩
    · refine g_tableIn (x := nI 4) (off := 63) (tgt := 64) (by decide +kernel : decode prog_10_method_60_code 1 = .ok (.tableswitch 73 0 5 #[39, 46, 51, 57, 63, 68], 39)) (by decide) (by decide) rfl (by decide) ?_
      refine g_aload_n (by decide +kernel : decode prog_10_method_60_code 64 = .ok (.aload_n 0, 1)) rfl ?_
      refine g_callVI [] (by decide +kernel : decode prog_10_method_60_code 65 = .ok (.invokevirtual 222, 3)) lk_Md_222 (m_hidingPlaces σ f b hI) rfl rfl rfl rfl (Nat.le_of_ble_eq_true rfl) (Nat.le_of_ble_eq_true rfl) (fun r65 s65 h65 => ?_)
      obtain ⟨rfl, rfl⟩ := h65
      exact g_iret hR (by decide +kernel : decode prog_10_method_60_code 68 = .ok (.ireturn, 1)) rfl ⟨_, rfl, ⟨by simp only [stateV, rg_yes 5 4], Jk.self _ _ _⟩⟩
    · refine g_tableIn (x := nI 5) (off := 68) (tgt := 69) (by decide +kernel : decode prog_10_method_60_code 1 = .ok (.tableswitch 73 0 5 #[39, 46, 51, 57, 63, 68], 39)) (by decide) (by decide) rfl (by decide) ?_
      refine g_aload_n (by decide +kernel : decode prog_10_method_60_code 69 = .ok (.aload_n 0, 1)) rfl ?_
      refine g_callVI [] (by decide +kernel : decode prog_10_method_60_code 70 = .ok (.invokevirtual 225, 3)) lk_Md_225 (m_coverOfAll σ f b) rfl rfl rfl rfl (Nat.le_of_ble_eq_true rfl) (Nat.le_of_ble_eq_true rfl) (fun r70 s70 h70 => ?_)
      obtain ⟨rfl, rfl⟩ := h70
      exact g_iret hR (by decide +kernel : decode prog_10_method_60_code 73 = .ok (.ireturn, 1)) rfl ⟨_, rfl, ⟨by simp only [stateV, rg_yes 5 5], Jk.self _ _ _⟩⟩
  · refine g_tableOut (tgt := 74) (by decide +kernel : decode prog_10_method_60_code 1 = .ok (.tableswitch 73 0 5 #[39, 46, 51, 57, 63, 68], 39)) (by omega) (by decide) ?_
    refine g_iconst (v := (-1)) (by decide +kernel : decode prog_10_method_60_code 74 = .ok (.iconst (-1), 1)) (by decide) ?_
    exact g_iret hR (by decide +kernel : decode prog_10_method_60_code 75 = .ok (.ireturn, 1)) rfl ⟨_, rfl, ⟨by simp only [stateV, rg_no hno], Jk.self _ _ _⟩⟩
set_option maxRecDepth 20000 in
theorem p_many (σ : Store) (f b : Row) (hI : Inv f) (x : Int32) : Ct ΛM mt_Md_many 3 [.ref 0, .int x] (mS σ f b) (mP σ (manyV σ f x) f) := by
  refine Ct.of (by decide) (Nat.le_of_ble_eq_true rfl) (fun X hR => ?_)
  show G (ΛM, mt_Md_many, 3) X (mS σ f b) [some (.ref 0), some (.int x)] [] 0
  have hn8 := hI.n.2
  refine g_iload_n (by decide +kernel : decode prog_10_method_108_code 0 = .ok (.iload_n 1, 1)) rfl ?_
  rcases sw_in x 7 (by decide) with ⟨j, hj, rfl⟩ | ⟨ho, hno⟩
  · rcases (show j = 0 ∨ j = 1 ∨ j = 2 ∨ j = 3 ∨ j = 4 ∨ j = 5 ∨ j = 6 by omega) with rfl | rfl | rfl | rfl | rfl | rfl | rfl
    · refine g_tableIn (x := nI 0) (off := 43) (tgt := 44) (by decide +kernel : decode prog_10_method_108_code 1 = .ok (.tableswitch 86 0 6 #[43, 50, 58, 66, 71, 76, 81], 43)) (by decide) (by decide) rfl (by decide) ?_
      refine g_aload_n (by decide +kernel : decode prog_10_method_108_code 44 = .ok (.aload_n 0, 1)) rfl ?_
      refine g_getR (by decide +kernel : decode prog_10_method_108_code 45 = .ok (.getfield 7, 3)) fl_Md_7 rfl rfl ?_
      refine g_iconst (v := nI 0) (by decide +kernel : decode prog_10_method_108_code 48 = .ok (.iconst 0, 1)) (by decide) ?_
      refine g_iaload (a := 0) (by decide +kernel : decode prog_10_method_108_code 49 = .ok (.iaload, 1)) rfl rfl (by decide) (by decide) ?_
      refine g_top (w := f 0) (rfl) ?_
      exact g_iret hR (by decide +kernel : decode prog_10_method_108_code 50 = .ok (.ireturn, 1)) rfl ⟨_, rfl, ⟨by simp only [manyV, rg_yes 6 0] <;> rfl, Jk.self _ _ _⟩⟩
    · refine g_tableIn (x := nI 1) (off := 50) (tgt := 51) (by decide +kernel : decode prog_10_method_108_code 1 = .ok (.tableswitch 86 0 6 #[43, 50, 58, 66, 71, 76, 81], 43)) (by decide) (by decide) rfl (by decide) ?_
      refine g_aload_n (by decide +kernel : decode prog_10_method_108_code 51 = .ok (.aload_n 0, 1)) rfl ?_
      refine g_callVI [] (by decide +kernel : decode prog_10_method_108_code 52 = .ok (.invokevirtual 189, 3)) lk_Md_189 (m_hiddenOnes σ f b hI) rfl rfl rfl rfl (Nat.le_of_ble_eq_true rfl) (Nat.le_of_ble_eq_true rfl) (fun r52 s52 h52 => ?_)
      obtain ⟨rfl, rfl⟩ := h52
      refine g_callSI [.int (nI (msk f (nn f)))] (by decide +kernel : decode prog_10_method_108_code 55 = .ok (.invokestatic 192, 3)) lk_Md_192 (m_size ΛM (mS σ f b) (msk f (nn f)) (m_count σ f (fun _ => 0) hI)) rfl rfl (Nat.le_of_ble_eq_true rfl) (Nat.le_of_ble_eq_true rfl) (fun r55 s55 h55 => ?_)
      obtain ⟨rfl, rfl⟩ := h55
      exact g_iret hR (by decide +kernel : decode prog_10_method_108_code 58 = .ok (.ireturn, 1)) rfl ⟨_, rfl, ⟨by simp only [manyV, rg_yes 6 1] <;> rfl, Jk.self _ _ _⟩⟩
    · refine g_tableIn (x := nI 2) (off := 58) (tgt := 59) (by decide +kernel : decode prog_10_method_108_code 1 = .ok (.tableswitch 86 0 6 #[43, 50, 58, 66, 71, 76, 81], 43)) (by decide) (by decide) rfl (by decide) ?_
      refine g_aload_n (by decide +kernel : decode prog_10_method_108_code 59 = .ok (.aload_n 0, 1)) rfl ?_
      refine g_callVI [] (by decide +kernel : decode prog_10_method_108_code 60 = .ok (.invokevirtual 222, 3)) lk_Md_222 (m_hidingPlaces σ f b hI) rfl rfl rfl rfl (Nat.le_of_ble_eq_true rfl) (Nat.le_of_ble_eq_true rfl) (fun r60 s60 h60 => ?_)
      obtain ⟨rfl, rfl⟩ := h60
      refine g_callSI [.int (nI (hpl f (nn f)))] (by decide +kernel : decode prog_10_method_108_code 63 = .ok (.invokestatic 192, 3)) lk_Md_192 (m_size ΛM (mS σ f b) (hpl f (nn f)) (hpl_lt hI _ (Nat.le_refl _))) rfl rfl (Nat.le_of_ble_eq_true rfl) (Nat.le_of_ble_eq_true rfl) (fun r63 s63 h63 => ?_)
      obtain ⟨rfl, rfl⟩ := h63
      exact g_iret hR (by decide +kernel : decode prog_10_method_108_code 66 = .ok (.ireturn, 1)) rfl ⟨_, rfl, ⟨by simp only [manyV, rg_yes 6 2] <;> rfl, Jk.self _ _ _⟩⟩
    · refine g_tableIn (x := nI 3) (off := 66) (tgt := 67) (by decide +kernel : decode prog_10_method_108_code 1 = .ok (.tableswitch 86 0 6 #[43, 50, 58, 66, 71, 76, 81], 43)) (by decide) (by decide) rfl (by decide) ?_
      refine g_aload_n (by decide +kernel : decode prog_10_method_108_code 67 = .ok (.aload_n 0, 1)) rfl ?_
      refine g_callVI [] (by decide +kernel : decode prog_10_method_108_code 68 = .ok (.invokevirtual 327, 3)) lk_Md_327 (m_crowded σ f b hI) rfl rfl rfl rfl (Nat.le_of_ble_eq_true rfl) (Nat.le_of_ble_eq_true rfl) (fun r68 s68 h68 => ?_)
      obtain ⟨rfl, rfl⟩ := h68
      exact g_iret hR (by decide +kernel : decode prog_10_method_108_code 71 = .ok (.ireturn, 1)) rfl ⟨_, rfl, ⟨by simp only [manyV, rg_yes 6 3] <;> rfl, Jk.self _ _ _⟩⟩
    · refine g_tableIn (x := nI 4) (off := 71) (tgt := 72) (by decide +kernel : decode prog_10_method_108_code 1 = .ok (.tableswitch 86 0 6 #[43, 50, 58, 66, 71, 76, 81], 43)) (by decide) (by decide) rfl (by decide) ?_
      refine g_aload_n (by decide +kernel : decode prog_10_method_108_code 72 = .ok (.aload_n 0, 1)) rfl ?_
      refine g_getI (by decide +kernel : decode prog_10_method_108_code 73 = .ok (.getfield 148, 3)) fl_Md_148.get rfl rfl ?_
      refine g_top (w := σ 0 14) (rfl) ?_
      exact g_iret hR (by decide +kernel : decode prog_10_method_108_code 76 = .ok (.ireturn, 1)) rfl ⟨_, rfl, ⟨by simp only [manyV, rg_yes 6 4] <;> rfl, Jk.self _ _ _⟩⟩
    · refine g_tableIn (x := nI 5) (off := 76) (tgt := 77) (by decide +kernel : decode prog_10_method_108_code 1 = .ok (.tableswitch 86 0 6 #[43, 50, 58, 66, 71, 76, 81], 43)) (by decide) (by decide) rfl (by decide) ?_
      refine g_aload_n (by decide +kernel : decode prog_10_method_108_code 77 = .ok (.aload_n 0, 1)) rfl ?_
      refine g_getI (by decide +kernel : decode prog_10_method_108_code 78 = .ok (.getfield 61, 3)) fl_Md_61.get rfl rfl ?_
      refine g_top (w := σ 0 6) (rfl) ?_
      exact g_iret hR (by decide +kernel : decode prog_10_method_108_code 81 = .ok (.ireturn, 1)) rfl ⟨_, rfl, ⟨by simp only [manyV, rg_yes 6 5] <;> rfl, Jk.self _ _ _⟩⟩
    · refine g_tableIn (x := nI 6) (off := 81) (tgt := 82) (by decide +kernel : decode prog_10_method_108_code 1 = .ok (.tableswitch 86 0 6 #[43, 50, 58, 66, 71, 76, 81], 43)) (by decide) (by decide) rfl (by decide) ?_
      refine g_aload_n (by decide +kernel : decode prog_10_method_108_code 82 = .ok (.aload_n 0, 1)) rfl ?_
      refine g_getI (by decide +kernel : decode prog_10_method_108_code 83 = .ok (.getfield 282, 3)) fl_Md_282.get rfl rfl ?_
      refine g_top (w := σ 0 22) (rfl) ?_
      exact g_iret hR (by decide +kernel : decode prog_10_method_108_code 86 = .ok (.ireturn, 1)) rfl ⟨_, rfl, ⟨by simp only [manyV, rg_yes 6 6] <;> rfl, Jk.self _ _ _⟩⟩
  · refine g_tableOut (tgt := 87) (by decide +kernel : decode prog_10_method_108_code 1 = .ok (.tableswitch 86 0 6 #[43, 50, 58, 66, 71, 76, 81], 43)) (by omega) (by decide) ?_
    refine g_iconst (v := (-1)) (by decide +kernel : decode prog_10_method_108_code 87 = .ok (.iconst (-1), 1)) (by decide) ?_
    exact g_iret hR (by decide +kernel : decode prog_10_method_108_code 88 = .ok (.ireturn, 1)) rfl ⟨_, rfl, ⟨by simp only [manyV, rg_no hno] <;> rfl, Jk.self _ _ _⟩⟩
theorem row_self (σ : Store) (a b : Nat) : σ = s_row σ b (fun j => if j < 0 then σ a j else σ b j) := row_start σ a b
set_option maxRecDepth 20000 in
theorem p_keep_lp {X : CX} {σ : Store} : ∀ (b9 k : Nat), k ≤ 67 → 67 - k < b9 → Rt (ΛM, mt_Md_keep, 0) (PF (nI 1) (s_up (s_row σ 2 (fun j => if j < 67 then σ 1 j else σ 2 j)) 0 4 (nI 1))) X → G (ΛM, mt_Md_keep, 0) X (s_row σ 2 (fun j => if j < k then σ 1 j else σ 2 j)) [some (.ref 0), some (.int (nI k))] [] 2 := by
  intro b9
  induction b9 with
  | zero => intro k hk hb hR; omega
  | succ b9 ih =>
  intro k hk hb hR
  refine g_iload_n (by decide +kernel : decode prog_10_method_109_code 2 = .ok (.iload_n 1, 1)) rfl ?_
  refine g_bipush (v := nI 67) (by decide +kernel : decode prog_10_method_109_code 3 = .ok (.bipush 67, 2)) (by decide) ?_
  refine g_icmp_geN (tgt := 26) (by decide +kernel : decode prog_10_method_109_code 5 = .ok (.if_icmp .ge 21, 3)) (by decide) (by omega) (by decide) (fun h5 => ?_) (fun h5 => ?_)
  · refine g_aload_n (by decide +kernel : decode prog_10_method_109_code 26 = .ok (.aload_n 0, 1)) rfl ?_
    refine g_iconst (v := nI 1) (by decide +kernel : decode prog_10_method_109_code 27 = .ok (.iconst 1, 1)) (by decide) ?_
    refine g_putZ (by decide +kernel : decode prog_10_method_109_code 28 = .ok (.putfield 330, 3)) fl_Md_330 rfl rfl (by decide) ?_
    refine g_iconst (v := nI 1) (by decide +kernel : decode prog_10_method_109_code 31 = .ok (.iconst 1, 1)) (by decide) ?_
    exact g_iret hR (by decide +kernel : decode prog_10_method_109_code 32 = .ok (.ireturn, 1)) rfl ⟨_, rfl, ⟨rfl, by rw [show k = 67 by omega]⟩⟩
  · refine g_aload_n (by decide +kernel : decode prog_10_method_109_code 8 = .ok (.aload_n 0, 1)) rfl ?_
    refine g_getR (by decide +kernel : decode prog_10_method_109_code 9 = .ok (.getfield 13, 3)) fl_Md_13 rfl rfl ?_
    refine g_iload_n (by decide +kernel : decode prog_10_method_109_code 12 = .ok (.iload_n 1, 1)) rfl ?_
    refine g_aload_n (by decide +kernel : decode prog_10_method_109_code 13 = .ok (.aload_n 0, 1)) rfl ?_
    refine g_getR (by decide +kernel : decode prog_10_method_109_code 14 = .ok (.getfield 7, 3)) fl_Md_7 rfl rfl ?_
    refine g_iload_n (by decide +kernel : decode prog_10_method_109_code 17 = .ok (.iload_n 1, 1)) rfl ?_
    refine g_iaload (a := k) (by decide +kernel : decode prog_10_method_109_code 18 = .ok (.iaload, 1)) rfl rfl (by omega) (by decide) ?_
    refine g_top (w := σ 1 k) (rfl) ?_
    refine g_iastore (a := k) (by decide +kernel : decode prog_10_method_109_code 19 = .ok (.iastore, 1)) rfl rfl (by omega) (by decide) ?_
    refine g_iincN (n := 1) (L' := [some (.ref 0), some (.int (nI (k + 1)))]) (by decide +kernel : decode prog_10_method_109_code 20 = .ok (.iinc 1 1, 3)) rfl (by decide) (Nat.le_of_ble_eq_true rfl) rfl ?_
    refine g_goto (tgt := 2) (by decide +kernel : decode prog_10_method_109_code 23 = .ok (.goto (-21), 3)) (by decide) ?_
    refine g_sto (σ' := s_row σ 2 (fun j => if j < k + 1 then σ 1 j else σ 2 j)) (row_step σ 1 2 k) ?_
    exact ih (k + 1) (by omega) (by omega) hR
set_option maxRecDepth 20000 in
theorem m_keep0 (σ : Store) : Ct ΛM mt_Md_keep 0 [.ref 0] σ (PF (nI 1) (s_up (s_row σ 2 (fun j => if j < 67 then σ 1 j else σ 2 j)) 0 4 (nI 1))) := by
  refine Ct.of (by decide) (Nat.le_of_ble_eq_true rfl) (fun X hR => ?_)
  show G (ΛM, mt_Md_keep, 0) X σ [some (.ref 0), none] [] 0
  refine g_iconst (v := nI 0) (by decide +kernel : decode prog_10_method_109_code 0 = .ok (.iconst 0, 1)) (by decide) ?_
  refine g_istore_n (L' := [some (.ref 0), some (.int (nI 0))]) (by decide +kernel : decode prog_10_method_109_code 1 = .ok (.istore_n 1, 1)) (Nat.le_of_ble_eq_true rfl) rfl ?_
  refine g_sto (σ' := s_row σ 2 (fun j => if j < 0 then σ 1 j else σ 2 j)) (row_start σ 1 2) ?_
  exact p_keep_lp 68 0 (by omega) (by omega) hR
theorem row_eqv_up {Λ : Lay} {σ : Store} {a b n c i : Nat} {v : Int32} (h : Λ[b]? = some (.inl (false, n))) : Eqv Λ (s_up (s_row σ b (fun j => if j < n then σ a j else σ b j)) c i v) (s_up (s_row σ b (σ a)) c i v) := by
  intro k sh hk j hj
  have h1 := row_eqv (σ := σ) (a := a) h k sh hk j hj
  unfold s_up
  split
  · unfold upd
    split
    · rfl
    · exact h1
  · exact h1
theorem m_keep (σ : Store) : Ct ΛM mt_Md_keep 0 [.ref 0] σ (PF (nI 1) (s_up (s_row σ 2 (σ 1)) 0 4 (nI 1))) := by
  refine (m_keep0 σ).eqvP ?_
  rintro v τ ⟨r, h1, h2, h3⟩
  exact ⟨_, h3 ▸ row_eqv_up (a := 1) rfl, r, h1, h2, rfl⟩
def againP (σ : Store) (g : Row) : Option Value → Store → Prop := PI (fun r σ' => (σ 0 4 = 0 ∧ r = -3 ∧ σ' = σ) ∨ (¬ σ 0 4 = 0 ∧ r = σ 2 0 ∧ σ' = s_row σ 1 g))
set_option maxRecDepth 20000 in
theorem p_again_lp {X : CX} {σ : Store} (h0 : ¬ σ 0 4 = 0) : ∀ (b9 k : Nat), k ≤ 67 → 67 - k < b9 → Rt (ΛM, mt_Md_again, 0) (againP σ (fun j => if j < 67 then σ 2 j else σ 1 j)) X → G (ΛM, mt_Md_again, 0) X (s_row σ 1 (fun j => if j < k then σ 2 j else σ 1 j)) [some (.ref 0), some (.int (nI k))] [] 12 := by
  intro b9
  induction b9 with
  | zero => intro k hk hb hR; omega
  | succ b9 ih =>
  intro k hk hb hR
  refine g_iload_n (by decide +kernel : decode prog_10_method_110_code 12 = .ok (.iload_n 1, 1)) rfl ?_
  refine g_bipush (v := nI 67) (by decide +kernel : decode prog_10_method_110_code 13 = .ok (.bipush 67, 2)) (by decide) ?_
  refine g_icmp_geN (tgt := 36) (by decide +kernel : decode prog_10_method_110_code 15 = .ok (.if_icmp .ge 21, 3)) (by decide) (by omega) (by decide) (fun h15 => ?_) (fun h15 => ?_)
  · refine g_aload_n (by decide +kernel : decode prog_10_method_110_code 36 = .ok (.aload_n 0, 1)) rfl ?_
    refine g_getR (by decide +kernel : decode prog_10_method_110_code 37 = .ok (.getfield 7, 3)) fl_Md_7 rfl rfl ?_
    refine g_iconst (v := nI 0) (by decide +kernel : decode prog_10_method_110_code 40 = .ok (.iconst 0, 1)) (by decide) ?_
    refine g_iaload (a := 0) (by decide +kernel : decode prog_10_method_110_code 41 = .ok (.iaload, 1)) rfl rfl (by decide) (by decide) ?_
    refine g_top (w := σ 2 0) (by rw [show k = 67 by omega]; rfl) ?_
    exact g_iret hR (by decide +kernel : decode prog_10_method_110_code 42 = .ok (.ireturn, 1)) rfl ⟨_, rfl, Or.inr ⟨h0, rfl, by rw [show k = 67 by omega]⟩⟩
  · refine g_aload_n (by decide +kernel : decode prog_10_method_110_code 18 = .ok (.aload_n 0, 1)) rfl ?_
    refine g_getR (by decide +kernel : decode prog_10_method_110_code 19 = .ok (.getfield 7, 3)) fl_Md_7 rfl rfl ?_
    refine g_iload_n (by decide +kernel : decode prog_10_method_110_code 22 = .ok (.iload_n 1, 1)) rfl ?_
    refine g_aload_n (by decide +kernel : decode prog_10_method_110_code 23 = .ok (.aload_n 0, 1)) rfl ?_
    refine g_getR (by decide +kernel : decode prog_10_method_110_code 24 = .ok (.getfield 13, 3)) fl_Md_13 rfl rfl ?_
    refine g_iload_n (by decide +kernel : decode prog_10_method_110_code 27 = .ok (.iload_n 1, 1)) rfl ?_
    refine g_iaload (a := k) (by decide +kernel : decode prog_10_method_110_code 28 = .ok (.iaload, 1)) rfl rfl (by omega) (by decide) ?_
    refine g_top (w := σ 2 k) (rfl) ?_
    refine g_iastore (a := k) (by decide +kernel : decode prog_10_method_110_code 29 = .ok (.iastore, 1)) rfl rfl (by omega) (by decide) ?_
    refine g_iincN (n := 1) (L' := [some (.ref 0), some (.int (nI (k + 1)))]) (by decide +kernel : decode prog_10_method_110_code 30 = .ok (.iinc 1 1, 3)) rfl (by decide) (Nat.le_of_ble_eq_true rfl) rfl ?_
    refine g_goto (tgt := 12) (by decide +kernel : decode prog_10_method_110_code 33 = .ok (.goto (-21), 3)) (by decide) ?_
    refine g_sto (σ' := s_row σ 1 (fun j => if j < k + 1 then σ 2 j else σ 1 j)) (row_step σ 2 1 k) ?_
    exact ih (k + 1) (by omega) (by omega) hR
set_option maxRecDepth 20000 in
theorem m_again0 (σ : Store) : Ct ΛM mt_Md_again 0 [.ref 0] σ (againP σ (fun j => if j < 67 then σ 2 j else σ 1 j)) := by
  refine Ct.of (by decide) (Nat.le_of_ble_eq_true rfl) (fun X hR => ?_)
  show G (ΛM, mt_Md_again, 0) X σ [some (.ref 0), none] [] 0
  refine g_aload_n (by decide +kernel : decode prog_10_method_110_code 0 = .ok (.aload_n 0, 1)) rfl ?_
  refine g_getI (by decide +kernel : decode prog_10_method_110_code 1 = .ok (.getfield 330, 3)) fl_Md_330.get rfl rfl ?_
  refine g_if_ne (tgt := 10) (by decide +kernel : decode prog_10_method_110_code 4 = .ok (.ifCond .ne 6, 3)) (by decide) (fun h4 => ?_) (fun h4 => ?_)
  · refine g_iconst (v := nI 0) (by decide +kernel : decode prog_10_method_110_code 10 = .ok (.iconst 0, 1)) (by decide) ?_
    refine g_istore_n (L' := [some (.ref 0), some (.int (nI 0))]) (by decide +kernel : decode prog_10_method_110_code 11 = .ok (.istore_n 1, 1)) (Nat.le_of_ble_eq_true rfl) rfl ?_
    refine g_sto (σ' := s_row σ 1 (fun j => if j < 0 then σ 2 j else σ 1 j)) (row_start σ 2 1) ?_
    exact p_again_lp h4 68 0 (by omega) (by omega) hR
  · refine g_bipush (v := (-3)) (by decide +kernel : decode prog_10_method_110_code 7 = .ok (.bipush (-3), 2)) (by decide) ?_
    exact g_iret hR (by decide +kernel : decode prog_10_method_110_code 9 = .ok (.ireturn, 1)) rfl ⟨_, rfl, Or.inl ⟨h4, rfl, rfl⟩⟩
theorem m_again (σ : Store) : Ct ΛM mt_Md_again 0 [.ref 0] σ (againP σ (σ 2)) := by
  refine (m_again0 σ).eqvP ?_
  rintro v τ ⟨r, h1, h2⟩
  rcases h2 with ⟨h2, h3, h4⟩ | ⟨h2, h3, h4⟩
  · exact ⟨τ, Eqv.rf, r, h1, Or.inl ⟨h2, h3, h4⟩⟩
  · exact ⟨_, h4 ▸ row_eqv (a := 2) rfl, r, h1, Or.inr ⟨h2, h3, rfl⟩⟩
-- the shortest round
/-- how far back one must go beyond what lies on: the next asked one from p on -/
def bkF (P x : Nat) : Nat → Nat → Nat → Nat
  | 0, _, b => b
  | j + 1, p, b => bkF P x j (p + 1) (if b = 0 ∧ P.testBit ((x + p) % 12) = true then 12 - p else b)
theorem bkF_step {P x p b : Nat} (h : p < 12) : bkF P x (12 - p) p b = bkF P x (12 - (p + 1)) (p + 1) (if b = 0 ∧ P.testBit ((x + p) % 12) = true then 12 - p else b) := by
  obtain ⟨j, hj⟩ : ∃ j, 12 - p = j + 1 := ⟨12 - (p + 1), by omega⟩
  have hj2 : 12 - (p + 1) = j := by omega
  have e : bkF P x (12 - p) p b = bkF P x (j + 1) p b := by rw [hj]
  rw [e, hj2]
  rfl
def mnN (a b : Nat) : Nat := if a < b then a else b
def rnF (P x : Nat) : Nat → Nat
  | 0 => 99
  | k + 1 => mnN (rnF P x k) (k + bkF P x (12 - (k + 1)) (k + 1) 0 + mnN k (bkF P x (12 - (k + 1)) (k + 1) 0))
def roundV (f : Row) (x : Int32) : Int32 := match rg 0 11 x with
  | none => -1
  | some p => nI (rnF (hpl f (nn f)) p 12)
theorem lst_nI {a b : Nat} (ha : a < 2 ^ 31) (hb : b < 2 ^ 31) : lst (nI a) (nI b) = nI (mnN a b) := by
  unfold lst mnN
  by_cases h : a < b
  · rw [if_pos h, if_pos ((nI_ltI ha hb).mpr h)]
  · rw [if_neg h, if_neg (fun q => h ((nI_ltI ha hb).mp q))]
theorem mnN_le (a b : Nat) : mnN a b ≤ a := by unfold mnN; split <;> omega
theorem bkF_le (P x : Nat) : ∀ j p b, b ≤ 12 → bkF P x j p b ≤ 12 := by
  intro j
  induction j with
  | zero => intro p b h; exact h
  | succ j ih =>
    intro p b h
    show bkF P x j (p + 1) _ ≤ 12
    apply ih
    split <;> omega
theorem rnF_le (P x : Nat) : ∀ k, rnF P x k ≤ 99 := by
  intro k
  induction k with
  | zero => exact Nat.le_refl _
  | succ k ih => exact Nat.le_trans (mnN_le _ _) ih
set_option maxRecDepth 20000 in
theorem m_round_in {X : CX} {σ : Store} {f bb : Row} {x P t on u : Nat} (hx : x < 12) (hP : P < 4096) (hon : on < 12) (hK : G (ΛM, mt_Md_round, 2) X (mS σ f bb) [some (.ref 0), some (.int (nI x)), some (.int (nI P)), some (.int (nI t)), some (.int (nI on)), some (.int (nI u)), none, none] [] 93) : ∀ (b9 p b : Nat), p ≤ 12 → 12 - p < b9 → b ≤ 12 → bkF P x (12 - p) p b = u → G (ΛM, mt_Md_round, 2) X (mS σ f bb) [some (.ref 0), some (.int (nI x)), some (.int (nI P)), some (.int (nI t)), some (.int (nI on)), some (.int (nI b)), some (.int (nI p)), none] [] 36 := by
  intro b9
  induction b9 with
  | zero => intro p b hp hb hb12 hu; omega
  | succ b9 ih =>
  intro p b hp hb hb12 hu
  refine g_iload (by decide +kernel : decode prog_10_method_73_code 36 = .ok (.iload 6, 2)) rfl ?_
  refine g_bipush (v := nI 12) (by decide +kernel : decode prog_10_method_73_code 38 = .ok (.bipush 12, 2)) (by decide) ?_
  refine g_icmp_geN (tgt := 93) (by decide +kernel : decode prog_10_method_73_code 40 = .ok (.if_icmp .ge 53, 3)) (by decide) (by first | omega | (have h9 := ite1 (P.testBit ((x + p) % 12) = true); omega)) (by decide) (fun h40 => ?_) (fun h40 => ?_)
  · refine g_sub (L' := [some (.ref 0), some (.int (nI x)), some (.int (nI P)), some (.int (nI t)), some (.int (nI on)), some (.int (nI b)), none, none]) ⟨rfl, rfl, rfl, rfl, rfl, rfl, trivial⟩ ?_
    have e : b = u := by rw [← hu, show 12 - p = 0 by omega]; rfl
    rw [e]
    exact hK
  · refine g_iload_n (by decide +kernel : decode prog_10_method_73_code 43 = .ok (.iload_n 2, 1)) rfl ?_
    refine g_iload_n (by decide +kernel : decode prog_10_method_73_code 44 = .ok (.iload_n 1, 1)) rfl ?_
    refine g_iload (by decide +kernel : decode prog_10_method_73_code 45 = .ok (.iload 6, 2)) rfl ?_
    refine g_iaddN (by decide +kernel : decode prog_10_method_73_code 47 = .ok (.iadd, 1)) ?_
    refine g_bipush (v := nI 12) (by decide +kernel : decode prog_10_method_73_code 48 = .ok (.bipush 12, 2)) (by decide) ?_
    refine g_iremN (by decide +kernel : decode prog_10_method_73_code 50 = .ok (.irem, 1)) (by first | omega | (have h9 := ite1 (P.testBit ((x + p) % 12) = true); omega)) (by decide) (by decide) ?_
    refine g_ishr (by decide +kernel : decode prog_10_method_73_code 51 = .ok (.ishr, 1)) ?_
    refine g_iconst (v := nI 1) (by decide +kernel : decode prog_10_method_73_code 52 = .ok (.iconst 1, 1)) (by decide) ?_
    refine g_iand (by decide +kernel : decode prog_10_method_73_code 53 = .ok (.iand, 1)) ?_
    refine g_top (w := nI (if P.testBit ((x + p) % 12) then 1 else 0)) (nI_bit (by omega) (by omega)) ?_
    refine g_iconst (v := nI 1) (by decide +kernel : decode prog_10_method_73_code 54 = .ok (.iconst 1, 1)) (by decide) ?_
    have J55 : G (ΛM, mt_Md_round, 2) X (mS σ f bb) [some (.ref 0), some (.int (nI x)), some (.int (nI P)), some (.int (nI t)), some (.int (nI on)), some (.int (nI b)), some (.int (nI p)), none] [.int (nI (if P.testBit ((x + p) % 12) then 1 else 0))] 63 := by
      refine g_istore (L' := [some (.ref 0), some (.int (nI x)), some (.int (nI P)), some (.int (nI t)), some (.int (nI on)), some (.int (nI b)), some (.int (nI p)), some (.int (nI (if P.testBit ((x + p) % 12) then 1 else 0)))]) (by decide +kernel : decode prog_10_method_73_code 63 = .ok (.istore 7, 2)) (Nat.le_of_ble_eq_true rfl) rfl ?_
      refine g_iload (by decide +kernel : decode prog_10_method_73_code 65 = .ok (.iload 5, 2)) rfl ?_
      have J67 : G (ΛM, mt_Md_round, 2) X (mS σ f bb) [some (.ref 0), some (.int (nI x)), some (.int (nI P)), some (.int (nI t)), some (.int (nI on)), some (.int (nI b)), some (.int (nI p)), some (.int (nI (if P.testBit ((x + p) % 12) then 1 else 0)))] [.int (nI (if b = 0 ∧ P.testBit ((x + p) % 12) = true then 12 - p else b))] 85 := by
        refine g_istore (L' := [some (.ref 0), some (.int (nI x)), some (.int (nI P)), some (.int (nI t)), some (.int (nI on)), some (.int (nI (if b = 0 ∧ P.testBit ((x + p) % 12) = true then 12 - p else b))), some (.int (nI p)), some (.int (nI (if P.testBit ((x + p) % 12) then 1 else 0)))]) (by decide +kernel : decode prog_10_method_73_code 85 = .ok (.istore 5, 2)) (Nat.le_of_ble_eq_true rfl) rfl ?_
        refine g_iincN (n := 1) (L' := [some (.ref 0), some (.int (nI x)), some (.int (nI P)), some (.int (nI t)), some (.int (nI on)), some (.int (nI (if b = 0 ∧ P.testBit ((x + p) % 12) = true then 12 - p else b))), some (.int (nI (p + 1))), some (.int (nI (if P.testBit ((x + p) % 12) then 1 else 0)))]) (by decide +kernel : decode prog_10_method_73_code 87 = .ok (.iinc 6 1, 3)) rfl (by decide) (Nat.le_of_ble_eq_true rfl) rfl ?_
        refine g_goto (tgt := 36) (by decide +kernel : decode prog_10_method_73_code 90 = .ok (.goto (-54), 3)) (by decide) ?_
        refine g_sub (L' := [some (.ref 0), some (.int (nI x)), some (.int (nI P)), some (.int (nI t)), some (.int (nI on)), some (.int (nI (if b = 0 ∧ P.testBit ((x + p) % 12) = true then 12 - p else b))), some (.int (nI (p + 1))), none]) ⟨rfl, rfl, rfl, rfl, rfl, rfl, rfl, trivial⟩ ?_
        exact ih (p + 1) _ (by omega) (by omega) (by split <;> omega) (by rw [← hu]; exact (bkF_step (by omega)).symm)
      refine g_if_neN (tgt := 83) (by decide +kernel : decode prog_10_method_73_code 67 = .ok (.ifCond .ne 16, 3)) (by decide) (by first | omega | (have h9 := ite1 (P.testBit ((x + p) % 12) = true); omega)) (fun h67 => ?_) (fun h67 => ?_)
      · refine g_iload (by decide +kernel : decode prog_10_method_73_code 83 = .ok (.iload 5, 2)) rfl ?_
        exact g_top (by rw [if_neg (fun z => h67 z.1)]) J67
      · refine g_iload (by decide +kernel : decode prog_10_method_73_code 70 = .ok (.iload 7, 2)) rfl ?_
        refine g_if_eqN (tgt := 83) (by decide +kernel : decode prog_10_method_73_code 72 = .ok (.ifCond .eq 11, 3)) (by decide) (by first | omega | (have h9 := ite1 (P.testBit ((x + p) % 12) = true); omega)) (fun h72 => ?_) (fun h72 => ?_)
        · refine g_iload (by decide +kernel : decode prog_10_method_73_code 83 = .ok (.iload 5, 2)) rfl ?_
          exact g_top (by rw [if_neg (fun z => by rw [if_pos z.2] at h72; exact absurd h72 (by decide))]) J67
        · refine g_bipush (v := nI 12) (by decide +kernel : decode prog_10_method_73_code 75 = .ok (.bipush 12, 2)) (by decide) ?_
          refine g_iload (by decide +kernel : decode prog_10_method_73_code 77 = .ok (.iload 6, 2)) rfl ?_
          refine g_isubN (by decide +kernel : decode prog_10_method_73_code 79 = .ok (.isub, 1)) (by first | omega | (have h9 := ite1 (P.testBit ((x + p) % 12) = true); omega)) ?_
          refine g_goto (tgt := 85) (by decide +kernel : decode prog_10_method_73_code 80 = .ok (.goto 5, 3)) (by decide) ?_
          exact g_top (by rw [if_pos ⟨h67, by cases hz : P.testBit ((x + p) % 12) with | true => rfl | false => rw [hz] at h72; exact absurd rfl h72⟩]) J67
    refine g_icmp_neN (tgt := 62) (by decide +kernel : decode prog_10_method_73_code 55 = .ok (.if_icmp .ne 7, 3)) (by decide) (by first | omega | (have h9 := ite1 (P.testBit ((x + p) % 12) = true); omega)) (by decide) (fun h55 => ?_) (fun h55 => ?_)
    · refine g_iconst (v := nI 0) (by decide +kernel : decode prog_10_method_73_code 62 = .ok (.iconst 0, 1)) (by decide) ?_
      exact g_top (congrArg nI (by have h9 := ite1 (P.testBit ((x + p) % 12) = true); omega)) J55
    · refine g_iconst (v := nI 1) (by decide +kernel : decode prog_10_method_73_code 58 = .ok (.iconst 1, 1)) (by decide) ?_
      refine g_goto (tgt := 63) (by decide +kernel : decode prog_10_method_73_code 59 = .ok (.goto 4, 3)) (by decide) ?_
      exact g_top (by rw [h55]) J55
set_option maxRecDepth 20000 in
theorem m_round_lp {X : CX} {σ : Store} {f bb : Row} {x P : Nat} (hx : x < 12) (hP : P < 4096) {Post : Option Value → Store → Prop} (hp : Post (some (.int (nI (rnF P x 12)))) (mS σ f bb)) : ∀ (b9 k : Nat), k ≤ 12 → 12 - k < b9 → Rt (ΛM, mt_Md_round, 2) (Post) X → G (ΛM, mt_Md_round, 2) X (mS σ f bb) [some (.ref 0), some (.int (nI x)), some (.int (nI P)), some (.int (nI (rnF P x k))), some (.int (nI k)), none, none, none] [] 20 := by
  intro b9
  induction b9 with
  | zero => intro k hk hb hR; omega
  | succ b9 ih =>
  intro k hk hb hR
  have hl := rnF_le P x k
  have hK : ∀ u, k < 12 → u = bkF P x (12 - (k + 1)) (k + 1) 0 → G (ΛM, mt_Md_round, 2) X (mS σ f bb) [some (.ref 0), some (.int (nI x)), some (.int (nI P)), some (.int (nI (rnF P x k))), some (.int (nI k)), some (.int (nI u)), none, none] [] 93 := by
    intro u hk12 hu
    have hu12 : u ≤ 12 := by rw [hu]; exact bkF_le _ _ _ _ _ (by decide)
    have hm := mnN_le k u
    refine g_iload_n (by decide +kernel : decode prog_10_method_73_code 93 = .ok (.iload_n 3, 1)) rfl ?_
    refine g_iload (by decide +kernel : decode prog_10_method_73_code 94 = .ok (.iload 4, 2)) rfl ?_
    refine g_iload (by decide +kernel : decode prog_10_method_73_code 96 = .ok (.iload 5, 2)) rfl ?_
    refine g_iaddN (by decide +kernel : decode prog_10_method_73_code 98 = .ok (.iadd, 1)) ?_
    refine g_iload (by decide +kernel : decode prog_10_method_73_code 99 = .ok (.iload 4, 2)) rfl ?_
    refine g_iload (by decide +kernel : decode prog_10_method_73_code 101 = .ok (.iload 5, 2)) rfl ?_
    refine g_callSI [.int (nI k), .int (nI u)] (by decide +kernel : decode prog_10_method_73_code 103 = .ok (.invokestatic 195, 3)) lk_Md_195 (m_lst ΛM (mS σ f bb) (nI (k)) (nI (u))) rfl rfl (Nat.le_of_ble_eq_true rfl) (Nat.le_of_ble_eq_true rfl) (fun r103 s103 h103 => ?_)
    obtain ⟨rfl, rfl⟩ := h103
    refine g_top (w := nI (mnN (k) (u))) (lst_nI (by omega) (by omega)) ?_
    refine g_iaddN (by decide +kernel : decode prog_10_method_73_code 106 = .ok (.iadd, 1)) ?_
    refine g_callSI [.int (nI (rnF P x k)), .int (nI (k + u + mnN (k) (u)))] (by decide +kernel : decode prog_10_method_73_code 107 = .ok (.invokestatic 195, 3)) lk_Md_195 (m_lst ΛM (mS σ f bb) (nI (rnF P x k)) (nI (k + u + mnN (k) (u)))) rfl rfl (Nat.le_of_ble_eq_true rfl) (Nat.le_of_ble_eq_true rfl) (fun r107 s107 h107 => ?_)
    obtain ⟨rfl, rfl⟩ := h107
    refine g_top (w := nI (mnN (rnF P x k) (k + u + mnN (k) (u)))) (lst_nI (by omega) (by omega)) ?_
    refine g_istore_n (L' := [some (.ref 0), some (.int (nI x)), some (.int (nI P)), some (.int (nI (mnN (rnF P x k) (k + u + mnN (k) (u))))), some (.int (nI k)), some (.int (nI u)), none, none]) (by decide +kernel : decode prog_10_method_73_code 110 = .ok (.istore_n 3, 1)) (Nat.le_of_ble_eq_true rfl) rfl ?_
    refine g_iincN (n := 1) (L' := [some (.ref 0), some (.int (nI x)), some (.int (nI P)), some (.int (nI (mnN (rnF P x k) (k + u + mnN (k) (u))))), some (.int (nI (k + 1))), some (.int (nI u)), none, none]) (by decide +kernel : decode prog_10_method_73_code 111 = .ok (.iinc 4 1, 3)) rfl (by decide) (Nat.le_of_ble_eq_true rfl) rfl ?_
    refine g_goto (tgt := 20) (by decide +kernel : decode prog_10_method_73_code 114 = .ok (.goto (-94), 3)) (by decide) ?_
    subst hu
    refine g_sub (L' := [some (.ref 0), some (.int (nI x)), some (.int (nI P)), some (.int (nI (rnF P x (k + 1)))), some (.int (nI (k + 1))), none, none, none]) ⟨rfl, rfl, rfl, rfl, rfl, trivial⟩ ?_
    exact ih (k + 1) (by omega) (by omega) hR
  refine g_iload (by decide +kernel : decode prog_10_method_73_code 20 = .ok (.iload 4, 2)) rfl ?_
  refine g_bipush (v := nI 12) (by decide +kernel : decode prog_10_method_73_code 22 = .ok (.bipush 12, 2)) (by decide) ?_
  refine g_icmp_geN (tgt := 117) (by decide +kernel : decode prog_10_method_73_code 24 = .ok (.if_icmp .ge 93, 3)) (by decide) (by omega) (by decide) (fun h24 => ?_) (fun h24 => ?_)
  · refine g_iload_n (by decide +kernel : decode prog_10_method_73_code 117 = .ok (.iload_n 3, 1)) rfl ?_
    exact g_iret hR (by decide +kernel : decode prog_10_method_73_code 118 = .ok (.ireturn, 1)) rfl (by rw [show k = 12 by omega]; exact hp)
  · refine g_iconst (v := nI 0) (by decide +kernel : decode prog_10_method_73_code 27 = .ok (.iconst 0, 1)) (by decide) ?_
    refine g_istore (L' := [some (.ref 0), some (.int (nI x)), some (.int (nI P)), some (.int (nI (rnF P x k))), some (.int (nI k)), some (.int (nI 0)), none, none]) (by decide +kernel : decode prog_10_method_73_code 28 = .ok (.istore 5, 2)) (Nat.le_of_ble_eq_true rfl) rfl ?_
    refine g_iload (by decide +kernel : decode prog_10_method_73_code 30 = .ok (.iload 4, 2)) rfl ?_
    refine g_iconst (v := nI 1) (by decide +kernel : decode prog_10_method_73_code 32 = .ok (.iconst 1, 1)) (by decide) ?_
    refine g_iaddN (by decide +kernel : decode prog_10_method_73_code 33 = .ok (.iadd, 1)) ?_
    refine g_istore (L' := [some (.ref 0), some (.int (nI x)), some (.int (nI P)), some (.int (nI (rnF P x k))), some (.int (nI k)), some (.int (nI 0)), some (.int (nI (k + 1))), none]) (by decide +kernel : decode prog_10_method_73_code 34 = .ok (.istore 6, 2)) (Nat.le_of_ble_eq_true rfl) rfl ?_
    refine g_sub (L' := [some (.ref 0), some (.int (nI x)), some (.int (nI P)), some (.int (nI (rnF P x k))), some (.int (nI k)), some (.int (nI 0)), some (.int (nI (k + 1))), none]) ⟨rfl, rfl, rfl, rfl, rfl, rfl, rfl, trivial⟩ ?_
    exact m_round_in hx hP (by omega) (hK _ (by omega) rfl) 13 (k + 1) 0 (by omega) (by omega) (by omega) rfl
set_option maxRecDepth 20000 in
theorem p_round (σ : Store) (f b : Row) (hI : Inv f) (x : Int32) : Ct ΛM mt_Md_round 2 [.ref 0, .int x] (mS σ f b) (mP σ (roundV f x) f) := by
  refine Ct.of (by decide) (Nat.le_of_ble_eq_true rfl) (fun X hR => ?_)
  show G (ΛM, mt_Md_round, 2) X (mS σ f b) [some (.ref 0), some (.int x), none, none, none, none, none, none] [] 0
  have hn8 := hI.n.2
  refine g_iload_n (by decide +kernel : decode prog_10_method_73_code 0 = .ok (.iload_n 1, 1)) rfl ?_
  refine g_callSI [.int x] (by decide +kernel : decode prog_10_method_73_code 1 = .ok (.invokestatic 166, 3)) lk_Md_166 (m_isPlace ΛM (mS σ f b) x) rfl rfl (Nat.le_of_ble_eq_true rfl) (Nat.le_of_ble_eq_true rfl) (fun r1 s1 h1 => ?_)
  rcases h1 with ⟨rfl, ⟨rfl, p, hp1, rfl⟩ | ⟨rfl, n1⟩⟩
  · refine g_if_neN (tgt := 9) (by decide +kernel : decode prog_10_method_73_code 4 = .ok (.ifCond .ne 5, 3)) (by decide) (by decide) (fun _ => ?_) (fun h => False.elim (by revert h; decide))
    refine g_aload_n (by decide +kernel : decode prog_10_method_73_code 9 = .ok (.aload_n 0, 1)) rfl ?_
    refine g_callVI [] (by decide +kernel : decode prog_10_method_73_code 10 = .ok (.invokevirtual 222, 3)) lk_Md_222 (m_hidingPlaces σ f b hI) rfl rfl rfl rfl (Nat.le_of_ble_eq_true rfl) (Nat.le_of_ble_eq_true rfl) (fun r10 s10 h10 => ?_)
    obtain ⟨rfl, rfl⟩ := h10
    refine g_istore_n (L' := [some (.ref 0), some (.int (nI p)), some (.int (nI (hpl f (nn f)))), none, none, none, none, none]) (by decide +kernel : decode prog_10_method_73_code 13 = .ok (.istore_n 2, 1)) (Nat.le_of_ble_eq_true rfl) rfl ?_
    refine g_bipush (v := nI 99) (by decide +kernel : decode prog_10_method_73_code 14 = .ok (.bipush 99, 2)) (by decide) ?_
    refine g_istore_n (L' := [some (.ref 0), some (.int (nI p)), some (.int (nI (hpl f (nn f)))), some (.int (nI 99)), none, none, none, none]) (by decide +kernel : decode prog_10_method_73_code 16 = .ok (.istore_n 3, 1)) (Nat.le_of_ble_eq_true rfl) rfl ?_
    refine g_iconst (v := nI 0) (by decide +kernel : decode prog_10_method_73_code 17 = .ok (.iconst 0, 1)) (by decide) ?_
    refine g_istore (L' := [some (.ref 0), some (.int (nI p)), some (.int (nI (hpl f (nn f)))), some (.int (nI 99)), some (.int (nI 0)), none, none, none]) (by decide +kernel : decode prog_10_method_73_code 18 = .ok (.istore 4, 2)) (Nat.le_of_ble_eq_true rfl) rfl ?_
    refine g_sub (L' := [some (.ref 0), some (.int (nI p)), some (.int (nI (hpl f (nn f)))), some (.int (nI 99)), some (.int (nI 0)), none, none, none]) ⟨rfl, rfl, rfl, rfl, rfl, trivial⟩ ?_
    exact m_round_lp hp1 (hpl_lt hI _ (Nat.le_refl _)) ⟨_, rfl, by simp only [roundV, pl_of hp1], Jk.self _ _ _⟩ 13 0 (by omega) (by omega) hR
  · refine g_if_neN (tgt := 9) (by decide +kernel : decode prog_10_method_73_code 4 = .ok (.ifCond .ne 5, 3)) (by decide) (by decide) (fun h => False.elim (by revert h; decide)) (fun _ => ?_)
    refine g_iconst (v := (-1)) (by decide +kernel : decode prog_10_method_73_code 7 = .ok (.iconst (-1), 1)) (by decide) ?_
    exact g_iret hR (by decide +kernel : decode prog_10_method_73_code 8 = .ok (.ireturn, 1)) rfl ⟨_, rfl, ⟨by simp only [roundV, pl_none n1], Jk.self _ _ _⟩⟩
