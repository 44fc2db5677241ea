/-! THE REFERENCE: years by draws -/
set_option maxRecDepth 20000 in
theorem m_year (σ : Store) (f b : Row) (hI : Inv f) : Ct ΛM mt_Md_year 4 [.ref 0] (mS σ f b) (PF (nI (hc (yearT f))) (mS σ (yearT f) (yr 255 (dyr f) b).2)) := by
  refine Ct.of (by decide) (Nat.le_of_ble_eq_true rfl) (fun X hR => ?_)
  show G (ΛM, mt_Md_year, 4) X (mS σ f b) [some (.ref 0), none] [] 0
  have hn8 := hI.n.2
  have K60 : G (ΛM, mt_Md_year, 4) X (mS σ (dyr f) b) [some (.ref 0), none] [] 60 := by
    refine g_aload_n (by decide +kernel : decode prog_10_method_55_code 60 = .ok (.aload_n 0, 1)) rfl ?_
    refine g_sipush (v := nI 255) (by decide +kernel : decode prog_10_method_55_code 61 = .ok (.sipush 255, 3)) (by decide) ?_
    refine g_callVV [.int (nI 255)] (by decide +kernel : decode prog_10_method_55_code 64 = .ok (.invokevirtual 202, 3)) lk_Md_202 (m_goesBy σ (dyr f) b (dyr_inv hI).1 255 (by decide)) rfl rfl rfl rfl (Nat.le_of_ble_eq_true rfl) (Nat.le_of_ble_eq_true rfl) (fun s64 h64 => ?_)
    obtain rfl := h64
    refine g_sto (σ' := mS σ (yearT f) (yr 255 (dyr f) b).2) (by rw [yr_1]; rfl) ?_
    refine g_aload_n (by decide +kernel : decode prog_10_method_55_code 67 = .ok (.aload_n 0, 1)) rfl ?_
    refine g_callVI [] (by decide +kernel : decode prog_10_method_55_code 68 = .ok (.invokevirtual 189, 3)) lk_Md_189 (m_hiddenOnes σ (yearT f) ((yr 255 (dyr f) b).2) (yearT_inv hI).1) rfl rfl rfl rfl (Nat.le_of_ble_eq_true rfl) (Nat.le_of_ble_eq_true rfl) (fun r68 s68 h68 => ?_)
    obtain ⟨rfl, rfl⟩ := h68
    refine g_callSI [.int (nI (msk (yearT f) (nn (yearT f))))] (by decide +kernel : decode prog_10_method_55_code 71 = .ok (.invokestatic 192, 3)) lk_Md_192 (m_size ΛM (mS σ (yearT f) ((yr 255 (dyr f) b).2)) (msk (yearT f) (nn (yearT f))) (m_count σ (yearT f) (fun _ => 0) (yearT_inv hI).1)) rfl rfl (Nat.le_of_ble_eq_true rfl) (Nat.le_of_ble_eq_true rfl) (fun r71 s71 h71 => ?_)
    obtain ⟨rfl, rfl⟩ := h71
    exact g_iret hR (by decide +kernel : decode prog_10_method_55_code 74 = .ok (.ireturn, 1)) rfl ⟨_, rfl, ⟨rfl, rfl⟩⟩
  refine g_aload_n (by decide +kernel : decode prog_10_method_55_code 0 = .ok (.aload_n 0, 1)) rfl ?_
  refine g_getR (by decide +kernel : decode prog_10_method_55_code 1 = .ok (.getfield 7, 3)) fl_Md_7 rfl rfl ?_
  refine g_iconst (v := nI 0) (by decide +kernel : decode prog_10_method_55_code 4 = .ok (.iconst 0, 1)) (by decide) ?_
  refine g_iaload (a := 0) (by decide +kernel : decode prog_10_method_55_code 5 = .ok (.iaload, 1)) rfl rfl (by decide) (by decide) ?_
  refine g_top (w := nI (nn f)) (hI.n.1) ?_
  refine g_if_leN (tgt := 60) (by decide +kernel : decode prog_10_method_55_code 6 = .ok (.ifCond .le 54, 3)) (by decide) (by first | omega | (have h9 := (sh16_n (drw (f 2))).2; omega) | (have h9 := (sh16_n (drw (drw (f 2)))).2; omega)) (fun h6 => ?_) (fun h6 => ?_)
  · refine g_sto (σ' := mS σ (dyr f) b) (by rw [dyr, if_pos h6]) ?_
    refine g_sub (L' := [some (.ref 0), none]) ⟨rfl, trivial⟩ ?_
    exact K60
  · refine g_aload_n (by decide +kernel : decode prog_10_method_55_code 9 = .ok (.aload_n 0, 1)) rfl ?_
    refine g_callVI [] (by decide +kernel : decode prog_10_method_55_code 10 = .ok (.invokevirtual 211, 3)) lk_Md_211 (m_drawn σ f b) rfl rfl rfl rfl (Nat.le_of_ble_eq_true rfl) (Nat.le_of_ble_eq_true rfl) (fun r10 s10 h10 => ?_)
    obtain ⟨rfl, rfl⟩ := h10
    refine g_top (w := nI (tn (sh16 (drw (f 2))))) ((sh16_n _).1) ?_
    refine g_aload_n (by decide +kernel : decode prog_10_method_55_code 13 = .ok (.aload_n 0, 1)) rfl ?_
    refine g_getR (by decide +kernel : decode prog_10_method_55_code 14 = .ok (.getfield 7, 3)) fl_Md_7 rfl rfl ?_
    refine g_iconst (v := nI 0) (by decide +kernel : decode prog_10_method_55_code 17 = .ok (.iconst 0, 1)) (by decide) ?_
    refine g_iaload (a := 0) (by decide +kernel : decode prog_10_method_55_code 18 = .ok (.iaload, 1)) rfl rfl (by decide) (by decide) ?_
    refine g_top (w := nI (nn f)) (by rw [mS_1]; simp (disch := omega) only [upd_n]; exact hI.n.1) ?_
    refine g_iremN (by decide +kernel : decode prog_10_method_55_code 19 = .ok (.irem, 1)) (by first | omega | (have h9 := (sh16_n (drw (f 2))).2; omega) | (have h9 := (sh16_n (drw (drw (f 2)))).2; omega)) (by first | omega | (have h9 := (sh16_n (drw (f 2))).2; omega) | (have h9 := (sh16_n (drw (drw (f 2)))).2; omega)) (by first | omega | (have h9 := (sh16_n (drw (f 2))).2; omega) | (have h9 := (sh16_n (drw (drw (f 2)))).2; omega)) ?_
    obtain ⟨o, ho⟩ : ∃ o, o = tn (sh16 (drw (f 2))) % nn f := ⟨_, rfl⟩
    have hon : o < nn f := by rw [ho]; exact Nat.mod_lt _ (by omega)
    refine g_top (w := nI o) (by rw [ho]) ?_
    refine g_istore_n (L' := [some (.ref 0), some (.int (nI o))]) (by decide +kernel : decode prog_10_method_55_code 20 = .ok (.istore_n 1, 1)) (Nat.le_of_ble_eq_true rfl) rfl ?_
    refine g_aload_n (by decide +kernel : decode prog_10_method_55_code 21 = .ok (.aload_n 0, 1)) rfl ?_
    refine g_callVI [] (by decide +kernel : decode prog_10_method_55_code 22 = .ok (.invokevirtual 211, 3)) lk_Md_211 (m_drawn σ (upd f 2 (drw (f 2))) b) rfl rfl rfl rfl (Nat.le_of_ble_eq_true rfl) (Nat.le_of_ble_eq_true rfl) (fun r22 s22 h22 => ?_)
    obtain ⟨rfl, rfl⟩ := h22
    refine g_sto (σ' := mS σ (upd (upd f 2 (drw (f 2))) 2 (drw (drw (f 2)))) b) (by rw [upd_s]) ?_
    refine g_top (w := nI (tn (sh16 (drw (drw (f 2)))))) (by rw [upd_s]; exact (sh16_n _).1) ?_
    refine g_bipush (v := nI 100) (by decide +kernel : decode prog_10_method_55_code 25 = .ok (.bipush 100, 2)) (by decide) ?_
    refine g_iremN (by decide +kernel : decode prog_10_method_55_code 27 = .ok (.irem, 1)) (by first | omega | (have h9 := (sh16_n (drw (f 2))).2; omega) | (have h9 := (sh16_n (drw (drw (f 2)))).2; omega)) (by decide) (by decide) ?_
    refine g_aload_n (by decide +kernel : decode prog_10_method_55_code 28 = .ok (.aload_n 0, 1)) rfl ?_
    refine g_getR (by decide +kernel : decode prog_10_method_55_code 29 = .ok (.getfield 7, 3)) fl_Md_7 rfl rfl ?_
    refine g_bipush (v := nI 6) (by decide +kernel : decode prog_10_method_55_code 32 = .ok (.bipush 6, 2)) (by decide) ?_
    refine g_iaload (a := 6) (by decide +kernel : decode prog_10_method_55_code 34 = .ok (.iaload, 1)) rfl rfl (by decide) (by decide) ?_
    refine g_top (w := (upd (upd f 2 (drw (f 2))) 2 (drw (drw (f 2)))) 6) (rfl) ?_
    refine g_icmp_ge (tgt := 60) (by decide +kernel : decode prog_10_method_55_code 35 = .ok (.if_icmp .ge 25, 3)) (by decide) (fun h35 => ?_) (fun h35 => ?_)
    · refine g_sto (σ' := mS σ (dyr f) b) (by simp only [dyr, if_neg h6, if_pos h35]) ?_
      refine g_sub (L' := [some (.ref 0), none]) ⟨rfl, trivial⟩ ?_
      exact K60
    · refine g_aload_n (by decide +kernel : decode prog_10_method_55_code 38 = .ok (.aload_n 0, 1)) rfl ?_
      refine g_getR (by decide +kernel : decode prog_10_method_55_code 39 = .ok (.getfield 7, 3)) fl_Md_7 rfl rfl ?_
      refine g_bipush (v := nI 19) (by decide +kernel : decode prog_10_method_55_code 42 = .ok (.bipush 19, 2)) (by decide) ?_
      refine g_bipush (v := nI 6) (by decide +kernel : decode prog_10_method_55_code 44 = .ok (.bipush 6, 2)) (by decide) ?_
      refine g_iload_n (by decide +kernel : decode prog_10_method_55_code 46 = .ok (.iload_n 1, 1)) rfl ?_
      refine g_imulN (by decide +kernel : decode prog_10_method_55_code 47 = .ok (.imul, 1)) ?_
      refine g_iaddN (by decide +kernel : decode prog_10_method_55_code 48 = .ok (.iadd, 1)) ?_
      refine g_iconst (v := nI 4) (by decide +kernel : decode prog_10_method_55_code 49 = .ok (.iconst 4, 1)) (by decide) ?_
      refine g_iaddN (by decide +kernel : decode prog_10_method_55_code 50 = .ok (.iadd, 1)) ?_
      refine g_iconst (v := nI 1) (by decide +kernel : decode prog_10_method_55_code 51 = .ok (.iconst 1, 1)) (by decide) ?_
      refine g_aload_n (by decide +kernel : decode prog_10_method_55_code 52 = .ok (.aload_n 0, 1)) rfl ?_
      refine g_iload_n (by decide +kernel : decode prog_10_method_55_code 53 = .ok (.iload_n 1, 1)) rfl ?_
      refine g_iconst (v := nI 4) (by decide +kernel : decode prog_10_method_55_code 54 = .ok (.iconst 4, 1)) (by decide) ?_
      refine g_callVI [.int (nI o), .int (nI 4)] (by decide +kernel : decode prog_10_method_55_code 55 = .ok (.invokevirtual 169, 3)) lk_Md_169 (m_its (mS σ (upd (upd f 2 (drw (f 2))) 2 (drw (drw (f 2)))) b) o 4 (v := (upd (upd f 2 (drw (f 2))) 2 (drw (drw (f 2)))) (19 + 6 * o + 4)) rfl (by first | omega | (have h9 := (sh16_n (drw (f 2))).2; omega) | (have h9 := (sh16_n (drw (drw (f 2)))).2; omega))) rfl rfl rfl rfl (Nat.le_of_ble_eq_true rfl) (Nat.le_of_ble_eq_true rfl) (fun r55 s55 h55 => ?_)
      obtain ⟨rfl, rfl⟩ := h55
      refine g_isub (by decide +kernel : decode prog_10_method_55_code 58 = .ok (.isub, 1)) ?_
      refine g_iastore (a := 19 + 6 * o + 4) (by decide +kernel : decode prog_10_method_55_code 59 = .ok (.iastore, 1)) rfl rfl (by first | omega | (have h9 := (sh16_n (drw (f 2))).2; omega) | (have h9 := (sh16_n (drw (drw (f 2)))).2; omega)) (by decide) ?_
      refine g_sto (mS_u1 _ _ _ _ _) ?_
      refine g_sto (σ' := mS σ (dyr f) b) (by subst ho; simp only [dyr, if_neg h6, if_neg h35]) ?_
      refine g_sub (L' := [some (.ref 0), none]) ⟨rfl, trivial⟩ ?_
      exact K60
/-- nights: z, and in how many of k more are hidden than now -/
def ngt (f : Row) : Nat → Int32 × Nat
  | 0 => (f 2, 0)
  | k + 1 => ((yearT (upd f 2 (ngt f k).1)) 2, (ngt f k).2 + (if hc f < hc (yearT (upd f 2 (ngt f k).1)) then 1 else 0))
theorem ngt_le (f : Row) : ∀ k, (ngt f k).2 ≤ k := by
  intro k
  induction k with
  | zero => exact Nat.le_refl _
  | succ k ih =>
    show (ngt f k).2 + (if _ then _ else _) ≤ _
    split <;> omega
def nightsV (f : Row) (x : Int32) : Int32 := match rg 1 30 x with
  | none => -1
  | some n => nI (ngt f n).2
set_option maxRecDepth 20000 in
theorem p_nights_lp {X : CX} {σ : Store} {f : Row} (hI : Inv f) {n : Nat} (hn : n < 2 ^ 31) : ∀ (b9 k : Nat), k ≤ n → n - k < b9 → ∀ (g b : Row), Rt (ΛM, mt_Md_nights, 5) (mP σ (nI (ngt f n).2) f) X → G (ΛM, mt_Md_nights, 5) X (mS (s_row σ 3 f) g b) [some (.ref 0), some (.int (nI n)), some (.int (nI (hc f))), some (.int ((ngt f k).1)), some (.int (nI ((ngt f k).2))), some (.int (nI k))] [] 46 := by
  have hn8 := hI.n.2
  intro b9
  induction b9 with
  | zero => intro k hk hb g b hR; omega
  | succ b9 ih =>
  intro k hk hb g b hR
  have hl := ngt_le f k
  refine g_iload (by decide +kernel : decode prog_10_method_56_code 46 = .ok (.iload 5, 2)) rfl ?_
  refine g_iload_n (by decide +kernel : decode prog_10_method_56_code 48 = .ok (.iload_n 1, 1)) rfl ?_
  refine g_icmp_geN (tgt := 101) (by decide +kernel : decode prog_10_method_56_code 49 = .ok (.if_icmp .ge 52, 3)) (by decide) (by first | omega | (have h9 := hc_le f; omega) | (have h9 := hc_le (yearT (upd f 2 (ngt f k).1)); omega)) (by first | omega | (have h9 := hc_le f; omega) | (have h9 := hc_le (yearT (upd f 2 (ngt f k).1)); omega)) (fun h49 => ?_) (fun h49 => ?_)
  · refine g_aload_n (by decide +kernel : decode prog_10_method_56_code 101 = .ok (.aload_n 0, 1)) rfl ?_
    refine g_getR (by decide +kernel : decode prog_10_method_56_code 102 = .ok (.getfield 16, 3)) fl_Md_16 rfl rfl ?_
    refine g_aload_n (by decide +kernel : decode prog_10_method_56_code 105 = .ok (.aload_n 0, 1)) rfl ?_
    refine g_getR (by decide +kernel : decode prog_10_method_56_code 106 = .ok (.getfield 7, 3)) fl_Md_7 rfl rfl ?_
    refine g_callSV [.ref 3, .ref 1] (by decide +kernel : decode prog_10_method_56_code 109 = .ok (.invokestatic 141, 3)) lk_Md_141 (m_back σ f g b) rfl rfl (Nat.le_of_ble_eq_true rfl) (Nat.le_of_ble_eq_true rfl) (fun s109 h109 => ?_)
    obtain rfl := h109
    refine g_iload (by decide +kernel : decode prog_10_method_56_code 112 = .ok (.iload 4, 2)) rfl ?_
    exact g_iret hR (by decide +kernel : decode prog_10_method_56_code 114 = .ok (.ireturn, 1)) rfl ⟨_, rfl, ⟨by rw [show k = n by omega], ⟨_, _, rfl⟩⟩⟩
  · refine g_aload_n (by decide +kernel : decode prog_10_method_56_code 52 = .ok (.aload_n 0, 1)) rfl ?_
    refine g_getR (by decide +kernel : decode prog_10_method_56_code 53 = .ok (.getfield 16, 3)) fl_Md_16 rfl rfl ?_
    refine g_aload_n (by decide +kernel : decode prog_10_method_56_code 56 = .ok (.aload_n 0, 1)) rfl ?_
    refine g_getR (by decide +kernel : decode prog_10_method_56_code 57 = .ok (.getfield 7, 3)) fl_Md_7 rfl rfl ?_
    refine g_callSV [.ref 3, .ref 1] (by decide +kernel : decode prog_10_method_56_code 60 = .ok (.invokestatic 141, 3)) lk_Md_141 (m_back σ f g b) rfl rfl (Nat.le_of_ble_eq_true rfl) (Nat.le_of_ble_eq_true rfl) (fun s60 h60 => ?_)
    obtain rfl := h60
    refine g_aload_n (by decide +kernel : decode prog_10_method_56_code 63 = .ok (.aload_n 0, 1)) rfl ?_
    refine g_getR (by decide +kernel : decode prog_10_method_56_code 64 = .ok (.getfield 7, 3)) fl_Md_7 rfl rfl ?_
    refine g_iconst (v := nI 2) (by decide +kernel : decode prog_10_method_56_code 67 = .ok (.iconst 2, 1)) (by decide) ?_
    refine g_iload_n (by decide +kernel : decode prog_10_method_56_code 68 = .ok (.iload_n 3, 1)) rfl ?_
    refine g_iastore (a := 2) (by decide +kernel : decode prog_10_method_56_code 69 = .ok (.iastore, 1)) rfl rfl (by decide) (by decide) ?_
    refine g_sto (mS_u1 _ _ _ _ _) ?_
    refine g_iload (by decide +kernel : decode prog_10_method_56_code 70 = .ok (.iload 4, 2)) rfl ?_
    refine g_aload_n (by decide +kernel : decode prog_10_method_56_code 72 = .ok (.aload_n 0, 1)) rfl ?_
    refine g_callVI [] (by decide +kernel : decode prog_10_method_56_code 73 = .ok (.invokevirtual 216, 3)) lk_Md_216 (m_year (s_row σ 3 f) (upd f 2 (ngt f k).1) b (hI.z _)) rfl rfl rfl rfl (Nat.le_of_ble_eq_true rfl) (Nat.le_of_ble_eq_true rfl) (fun r73 s73 h73 => ?_)
    obtain ⟨rfl, rfl⟩ := h73
    refine g_iload_n (by decide +kernel : decode prog_10_method_56_code 76 = .ok (.iload_n 2, 1)) rfl ?_
    have J77 : G (ΛM, mt_Md_nights, 5) X (mS (s_row σ 3 f) (yearT (upd f 2 (ngt f k).1)) ((yr 255 (dyr (upd f 2 (ngt f k).1)) b).2)) [some (.ref 0), some (.int (nI n)), some (.int (nI (hc f))), some (.int ((ngt f k).1)), some (.int (nI ((ngt f k).2))), some (.int (nI k))] [.int (nI (if hc f < hc (yearT (upd f 2 (ngt f k).1)) then 1 else 0)), .int (nI ((ngt f k).2))] 85 := by
      refine g_iaddN (by decide +kernel : decode prog_10_method_56_code 85 = .ok (.iadd, 1)) ?_
      refine g_istore (L' := [some (.ref 0), some (.int (nI n)), some (.int (nI (hc f))), some (.int ((ngt f k).1)), some (.int (nI ((ngt f k).2 + if hc f < hc (yearT (upd f 2 (ngt f k).1)) then 1 else 0))), some (.int (nI k))]) (by decide +kernel : decode prog_10_method_56_code 86 = .ok (.istore 4, 2)) (Nat.le_of_ble_eq_true rfl) rfl ?_
      refine g_aload_n (by decide +kernel : decode prog_10_method_56_code 88 = .ok (.aload_n 0, 1)) rfl ?_
      refine g_getR (by decide +kernel : decode prog_10_method_56_code 89 = .ok (.getfield 7, 3)) fl_Md_7 rfl rfl ?_
      refine g_iconst (v := nI 2) (by decide +kernel : decode prog_10_method_56_code 92 = .ok (.iconst 2, 1)) (by decide) ?_
      refine g_iaload (a := 2) (by decide +kernel : decode prog_10_method_56_code 93 = .ok (.iaload, 1)) rfl rfl (by decide) (by decide) ?_
      refine g_top (w := (yearT (upd f 2 (ngt f k).1)) 2) (rfl) ?_
      refine g_istore_n (L' := [some (.ref 0), some (.int (nI n)), some (.int (nI (hc f))), some (.int ((yearT (upd f 2 (ngt f k).1)) 2)), some (.int (nI ((ngt f k).2 + if hc f < hc (yearT (upd f 2 (ngt f k).1)) then 1 else 0))), some (.int (nI k))]) (by decide +kernel : decode prog_10_method_56_code 94 = .ok (.istore_n 3, 1)) (Nat.le_of_ble_eq_true rfl) rfl ?_
      refine g_iincN (n := 1) (L' := [some (.ref 0), some (.int (nI n)), some (.int (nI (hc f))), some (.int ((yearT (upd f 2 (ngt f k).1)) 2)), some (.int (nI ((ngt f k).2 + if hc f < hc (yearT (upd f 2 (ngt f k).1)) then 1 else 0))), some (.int (nI (k + 1)))]) (by decide +kernel : decode prog_10_method_56_code 95 = .ok (.iinc 5 1, 3)) rfl (by decide) (Nat.le_of_ble_eq_true rfl) rfl ?_
      refine g_goto (tgt := 46) (by decide +kernel : decode prog_10_method_56_code 98 = .ok (.goto (-52), 3)) (by decide) ?_
      refine g_sub (L' := [some (.ref 0), some (.int (nI n)), some (.int (nI (hc f))), some (.int ((ngt f (k + 1)).1)), some (.int (nI ((ngt f (k + 1)).2))), some (.int (nI (k + 1)))]) ⟨rfl, rfl, rfl, rfl, rfl, rfl, trivial⟩ ?_
      exact ih (k + 1) (by omega) (by omega) _ _ hR
    refine g_icmp_leN (tgt := 84) (by decide +kernel : decode prog_10_method_56_code 77 = .ok (.if_icmp .le 7, 3)) (by decide) (by first | omega | (have h9 := hc_le f; omega) | (have h9 := hc_le (yearT (upd f 2 (ngt f k).1)); omega)) (by first | omega | (have h9 := hc_le f; omega) | (have h9 := hc_le (yearT (upd f 2 (ngt f k).1)); omega)) (fun h77 => ?_) (fun h77 => ?_)
    · refine g_iconst (v := nI 0) (by decide +kernel : decode prog_10_method_56_code 84 = .ok (.iconst 0, 1)) (by decide) ?_
      exact g_top (by rw [if_neg (by omega)]) J77
    · refine g_iconst (v := nI 1) (by decide +kernel : decode prog_10_method_56_code 80 = .ok (.iconst 1, 1)) (by decide) ?_
      refine g_goto (tgt := 85) (by decide +kernel : decode prog_10_method_56_code 81 = .ok (.goto 4, 3)) (by decide) ?_
      exact g_top (by rw [if_pos (by omega)]) J77
set_option maxRecDepth 20000 in
theorem p_nights (σ : Store) (f b : Row) (hI : Inv f) (x : Int32) : Ct ΛM mt_Md_nights 5 [.ref 0, .int x] (mS σ f b) (mP σ (nightsV f x) f) := by
  refine Ct.of (by decide) (Nat.le_of_ble_eq_true rfl) (fun X hR => ?_)
  show G (ΛM, mt_Md_nights, 5) X (mS σ f b) [some (.ref 0), some (.int x), none, none, none, none] [] 0
  have hn8 := hI.n.2
  refine g_iload_n (by decide +kernel : decode prog_10_method_56_code 0 = .ok (.iload_n 1, 1)) rfl ?_
  refine g_i2l (by decide +kernel : decode prog_10_method_56_code 1 = .ok (.i2l, 1)) ?_
  refine g_lconst (v := lN 1) (by decide +kernel : decode prog_10_method_56_code 2 = .ok (.lconst 1, 1)) (by decide) ?_
  refine g_ldc2 (v := lN 30) (by decide +kernel : decode prog_10_method_56_code 3 = .ok (.ldc2_w 214, 3)) kc_Md_214 ?_
  refine g_callSI [.long (Int32.toInt64 x), .long (lN 1), .long (lN 30)] (by decide +kernel : decode prog_10_method_56_code 6 = .ok (.invokestatic 57, 3)) lk_Md_57 (m_isInN ΛM (mS σ f b) x 1 30) rfl rfl (Nat.le_of_ble_eq_true rfl) (Nat.le_of_ble_eq_true rfl) (fun r6 s6 h6 => ?_)
  rcases h6 with ⟨rfl, ⟨rfl, n, ha6, hb6, rfl⟩ | ⟨rfl, n6⟩⟩
  · refine g_if_neN (tgt := 14) (by decide +kernel : decode prog_10_method_56_code 9 = .ok (.ifCond .ne 5, 3)) (by decide) (by decide) (fun _ => ?_) (fun h => False.elim (by revert h; decide))
    refine g_aload_n (by decide +kernel : decode prog_10_method_56_code 14 = .ok (.aload_n 0, 1)) rfl ?_
    refine g_getR (by decide +kernel : decode prog_10_method_56_code 15 = .ok (.getfield 7, 3)) fl_Md_7 rfl rfl ?_
    refine g_aload_n (by decide +kernel : decode prog_10_method_56_code 18 = .ok (.aload_n 0, 1)) rfl ?_
    refine g_getR (by decide +kernel : decode prog_10_method_56_code 19 = .ok (.getfield 16, 3)) fl_Md_16 rfl rfl ?_
    refine g_callSV [.ref 1, .ref 3] (by decide +kernel : decode prog_10_method_56_code 22 = .ok (.invokestatic 141, 3)) lk_Md_141 (m_aside σ f b) rfl rfl (Nat.le_of_ble_eq_true rfl) (Nat.le_of_ble_eq_true rfl) (fun s22 h22 => ?_)
    obtain rfl := h22
    refine g_aload_n (by decide +kernel : decode prog_10_method_56_code 25 = .ok (.aload_n 0, 1)) rfl ?_
    refine g_callVI [] (by decide +kernel : decode prog_10_method_56_code 26 = .ok (.invokevirtual 189, 3)) lk_Md_189 (m_hiddenOnes (s_row σ 3 f) f b hI) rfl rfl rfl rfl (Nat.le_of_ble_eq_true rfl) (Nat.le_of_ble_eq_true rfl) (fun r26 s26 h26 => ?_)
    obtain ⟨rfl, rfl⟩ := h26
    refine g_callSI [.int (nI (msk f (nn f)))] (by decide +kernel : decode prog_10_method_56_code 29 = .ok (.invokestatic 192, 3)) lk_Md_192 (m_size ΛM (mS (s_row σ 3 f) f b) (msk f (nn f)) (m_count σ f (fun _ => 0) hI)) rfl rfl (Nat.le_of_ble_eq_true rfl) (Nat.le_of_ble_eq_true rfl) (fun r29 s29 h29 => ?_)
    obtain ⟨rfl, rfl⟩ := h29
    refine g_istore_n (L' := [some (.ref 0), some (.int (nI n)), some (.int (nI (hc f))), none, none, none]) (by decide +kernel : decode prog_10_method_56_code 32 = .ok (.istore_n 2, 1)) (Nat.le_of_ble_eq_true rfl) rfl ?_
    refine g_aload_n (by decide +kernel : decode prog_10_method_56_code 33 = .ok (.aload_n 0, 1)) rfl ?_
    refine g_getR (by decide +kernel : decode prog_10_method_56_code 34 = .ok (.getfield 7, 3)) fl_Md_7 rfl rfl ?_
    refine g_iconst (v := nI 2) (by decide +kernel : decode prog_10_method_56_code 37 = .ok (.iconst 2, 1)) (by decide) ?_
    refine g_iaload (a := 2) (by decide +kernel : decode prog_10_method_56_code 38 = .ok (.iaload, 1)) rfl rfl (by decide) (by decide) ?_
    refine g_top (w := f 2) (rfl) ?_
    refine g_istore_n (L' := [some (.ref 0), some (.int (nI n)), some (.int (nI (hc f))), some (.int (f 2)), none, none]) (by decide +kernel : decode prog_10_method_56_code 39 = .ok (.istore_n 3, 1)) (Nat.le_of_ble_eq_true rfl) rfl ?_
    refine g_iconst (v := nI 0) (by decide +kernel : decode prog_10_method_56_code 40 = .ok (.iconst 0, 1)) (by decide) ?_
    refine g_istore (L' := [some (.ref 0), some (.int (nI n)), some (.int (nI (hc f))), some (.int (f 2)), some (.int (nI 0)), none]) (by decide +kernel : decode prog_10_method_56_code 41 = .ok (.istore 4, 2)) (Nat.le_of_ble_eq_true rfl) rfl ?_
    refine g_iconst (v := nI 0) (by decide +kernel : decode prog_10_method_56_code 43 = .ok (.iconst 0, 1)) (by decide) ?_
    refine g_istore (L' := [some (.ref 0), some (.int (nI n)), some (.int (nI (hc f))), some (.int (f 2)), some (.int (nI 0)), some (.int (nI 0))]) (by decide +kernel : decode prog_10_method_56_code 44 = .ok (.istore 5, 2)) (Nat.le_of_ble_eq_true rfl) rfl ?_
    exact p_nights_lp hI (by omega) (n + 1) 0 (Nat.zero_le _) (by omega) _ _ (by simpa only [nightsV, rg_of ha6 hb6] using hR)
  · refine g_if_neN (tgt := 14) (by decide +kernel : decode prog_10_method_56_code 9 = .ok (.ifCond .ne 5, 3)) (by decide) (by decide) (fun h => False.elim (by revert h; decide)) (fun _ => ?_)
    refine g_iconst (v := (-1)) (by decide +kernel : decode prog_10_method_56_code 12 = .ok (.iconst (-1), 1)) (by decide) ?_
    exact g_iret hR (by decide +kernel : decode prog_10_method_56_code 13 = .ok (.ireturn, 1)) rfl ⟨_, rfl, ⟨by simp only [nightsV, rg_none n6], Jk.self _ _ _⟩⟩
theorem p_year (σ : Store) (f b : Row) (hI : Inv f) : Ct ΛM mt_Md_year 4 [.ref 0] (mS σ f b) (mP σ (nI (hc (yearT f))) (yearT f)) := by
  refine (m_year σ f b hI).post ?_
  rintro v σ' ⟨r, h1, h2, h3⟩
  exact ⟨r, h1, h2, h3 ▸ Jk.self _ _ _⟩
