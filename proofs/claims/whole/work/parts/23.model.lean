/-! THE REFERENCE: minds, fits, shelves -/
def clamp9 (v : Int32) : Int32 := if 0 ≤ v then (if v ≤ nI 9 then v else nI 9) else nI 0
theorem clamp9_r (v : Int32) : Rng (clamp9 v) 9 := by
  unfold clamp9
  split
  · split
    · rename_i h1 h2
      rw [Int32.le_iff_toInt_le, Int32.toInt_zero] at h1
      rw [Int32.le_iff_toInt_le, nI_toInt (by decide)] at h2
      refine ⟨v.toInt.toNat, by omega, ?_⟩
      apply Int32.toInt_inj.mp
      rw [nI_toInt (by omega)]; omega
    · exact Rng.of (by decide)
  · exact Rng.of (by decide)
/-- wits of people from one on become numbers of a sheet -/
def mdF (f R : Row) (o q : Nat) : Nat → Row
  | 0 => f
  | k + 1 => upd (mdF f R o q k) (19 + 6 * (o + k) + 2) (clamp9 (R (q + k)))
def mdsC (σ : Store) (f : Row) (x y z u : Int32) : Int32 ⊕ (Nat × Nat × Nat × Nat) := match rg 0 3 x with
  | none => .inl (-1)
  | some t => match pz f z with
    | none => .inl (-1)
    | some o => match rg 0 8 u with
      | none => .inl (-1)
      | some n => if o + n ≤ nn f then (if σ 8 t < 0 then .inl (-11) else if σ 8 t = nI 0 then (match rg 0 (tn (σ 9 t)) y with
        | none => .inl (-12)
        | some i => if i + n ≤ tn (σ 9 t) then .inr (t, o, n, i) else .inl (-12)) else .inl (-13)) else .inl (-1)
def mindsV (σ : Store) (f : Row) (x y z u : Int32) : Int32 := match mdsC σ f x y z u with
  | .inl v => v
  | .inr q => nI q.2.2.1
def mindsT (σ : Store) (f : Row) (x y z u : Int32) : Row := match mdsC σ f x y z u with
  | .inl _ => f
  | .inr q => mdF f (σ 10) q.2.1 (40 * q.1 + q.2.2.2) q.2.2.1
theorem m_withinC (Λ : Lay) (σ : Store) (v : Int32) : Ct Λ mt_Md_within 0 [.int v] σ (PF (clamp9 v) σ) := m_within Λ σ v
set_option maxRecDepth 20000 in
theorem q_minds_lp {X : CX} {σ : Store} {f b : Row} {t i o n : Nat} (ht : t ≤ 3) (hi : i + n ≤ 40) (ho : o + n ≤ 8) {Post : Option Value → Store → Prop} (hp : Post (some (.int (nI n))) (mS σ (mdF f (σ 10) o (40 * t + i) n) b)) : ∀ (b9 k : Nat), k ≤ n → n - k < b9 → Rt (ΛM, mt_Md_minds, 2) (Post) X → G (ΛM, mt_Md_minds, 2) X (mS σ (mdF f (σ 10) o (40 * t + i) k) b) [some (.ref 0), some (.int (nI t)), some (.int (nI i)), some (.int (nI o)), some (.int (nI n)), some (.int (nI k))] [] 98 := by
  intro b9
  induction b9 with
  | zero => intro k hk hb hR; omega
  | succ b9 ih =>
  intro k hk hb hR
  refine g_iload (by decide +kernel : decode prog_10_method_91_code 98 = .ok (.iload 5, 2)) rfl ?_
  refine g_iload (by decide +kernel : decode prog_10_method_91_code 100 = .ok (.iload 4, 2)) rfl ?_
  refine g_icmp_geN (tgt := 145) (by decide +kernel : decode prog_10_method_91_code 102 = .ok (.if_icmp .ge 43, 3)) (by decide) (by omega) (by omega) (fun h102 => ?_) (fun h102 => ?_)
  · refine g_iload (by decide +kernel : decode prog_10_method_91_code 145 = .ok (.iload 4, 2)) rfl ?_
    exact g_iret hR (by decide +kernel : decode prog_10_method_91_code 147 = .ok (.ireturn, 1)) rfl ((show k = n by omega) ▸ hp)
  · refine g_aload_n (by decide +kernel : decode prog_10_method_91_code 105 = .ok (.aload_n 0, 1)) rfl ?_
    refine g_getR (by decide +kernel : decode prog_10_method_91_code 106 = .ok (.getfield 7, 3)) fl_Md_7 rfl rfl ?_
    refine g_bipush (v := nI 19) (by decide +kernel : decode prog_10_method_91_code 109 = .ok (.bipush 19, 2)) (by decide) ?_
    refine g_bipush (v := nI 6) (by decide +kernel : decode prog_10_method_91_code 111 = .ok (.bipush 6, 2)) (by decide) ?_
    refine g_iload_n (by decide +kernel : decode prog_10_method_91_code 113 = .ok (.iload_n 3, 1)) rfl ?_
    refine g_iload (by decide +kernel : decode prog_10_method_91_code 114 = .ok (.iload 5, 2)) rfl ?_
    refine g_iaddN (by decide +kernel : decode prog_10_method_91_code 116 = .ok (.iadd, 1)) ?_
    refine g_imulN (by decide +kernel : decode prog_10_method_91_code 117 = .ok (.imul, 1)) ?_
    refine g_iaddN (by decide +kernel : decode prog_10_method_91_code 118 = .ok (.iadd, 1)) ?_
    refine g_iconst (v := nI 2) (by decide +kernel : decode prog_10_method_91_code 119 = .ok (.iconst 2, 1)) (by decide) ?_
    refine g_iaddN (by decide +kernel : decode prog_10_method_91_code 120 = .ok (.iadd, 1)) ?_
    refine g_aload_n (by decide +kernel : decode prog_10_method_91_code 121 = .ok (.aload_n 0, 1)) rfl ?_
    refine g_getR (by decide +kernel : decode prog_10_method_91_code 122 = .ok (.getfield 37, 3)) fl_Md_37 rfl rfl ?_
    refine g_bipush (v := nI 40) (by decide +kernel : decode prog_10_method_91_code 125 = .ok (.bipush 40, 2)) (by decide) ?_
    refine g_iload_n (by decide +kernel : decode prog_10_method_91_code 127 = .ok (.iload_n 1, 1)) rfl ?_
    refine g_imulN (by decide +kernel : decode prog_10_method_91_code 128 = .ok (.imul, 1)) ?_
    refine g_iload_n (by decide +kernel : decode prog_10_method_91_code 129 = .ok (.iload_n 2, 1)) rfl ?_
    refine g_iaddN (by decide +kernel : decode prog_10_method_91_code 130 = .ok (.iadd, 1)) ?_
    refine g_iload (by decide +kernel : decode prog_10_method_91_code 131 = .ok (.iload 5, 2)) rfl ?_
    refine g_iaddN (by decide +kernel : decode prog_10_method_91_code 133 = .ok (.iadd, 1)) ?_
    refine g_iaload (a := 40 * t + i + k) (by decide +kernel : decode prog_10_method_91_code 134 = .ok (.iaload, 1)) rfl rfl (by omega) (by decide) ?_
    refine g_top (w := σ 10 (40 * t + i + k)) (rfl) ?_
    refine g_callSI [.int (σ 10 (40 * t + i + k))] (by decide +kernel : decode prog_10_method_91_code 135 = .ok (.invokestatic 266, 3)) lk_Md_266 (m_withinC ΛM (mS σ (mdF f (σ 10) o (40 * t + i) k) b) (σ 10 (40 * t + i + k))) rfl rfl (Nat.le_of_ble_eq_true rfl) (Nat.le_of_ble_eq_true rfl) (fun r135 s135 h135 => ?_)
    obtain ⟨rfl, rfl⟩ := h135
    refine g_iastore (a := 19 + (6 * (o + k)) + 2) (by decide +kernel : decode prog_10_method_91_code 138 = .ok (.iastore, 1)) rfl rfl (by omega) (by decide) ?_
    refine g_sto (mS_u1 _ _ _ _ _) ?_
    refine g_iincN (n := 1) (L' := [some (.ref 0), some (.int (nI t)), some (.int (nI i)), some (.int (nI o)), some (.int (nI n)), some (.int (nI (k + 1)))]) (by decide +kernel : decode prog_10_method_91_code 139 = .ok (.iinc 5 1, 3)) rfl (by decide) (Nat.le_of_ble_eq_true rfl) rfl ?_
    refine g_goto (tgt := 98) (by decide +kernel : decode prog_10_method_91_code 142 = .ok (.goto (-44), 3)) (by decide) ?_
    exact ih (k + 1) (by omega) (by omega) hR
theorem lg_add {a b c : Nat} (ha : a < 2 ^ 30) (hb : b < 2 ^ 30) (hc : c < 2 ^ 30) : lg_cmp (lN a + lN b) (lN c) ≤ 0 ↔ a + b ≤ c := by
  have h1 : ¬ (0 < lg_cmp (lN a + lN b) (lN c)) ↔ ¬ (lN c < lN a + lN b) := not_congr lg_gt0
  rw [lN_add, lN_lt (by omega) (by omega)] at h1
  rw [lN_add]
  rw [Int32.not_lt] at h1
  rw [h1]; omega
set_option maxRecDepth 20000 in
theorem q_minds (σ : Store) (f b : Row) (hI : Inv f) (hS : ShI σ) (x y z u : Int32) : Ct ΛM mt_Md_minds 2 [.ref 0, .int x, .int y, .int z, .int u] (mS σ f b) (PF (mindsV σ f x y z u) (mS σ (mindsT σ f x y z u) b)) := by
  refine Ct.of (by decide) (Nat.le_of_ble_eq_true rfl) (fun X hR => ?_)
  show G (ΛM, mt_Md_minds, 2) X (mS σ f b) [some (.ref 0), some (.int x), some (.int y), some (.int z), some (.int u), none] [] 0
  have hn8 := hI.n.2
  refine g_iload_n (by decide +kernel : decode prog_10_method_91_code 0 = .ok (.iload_n 1, 1)) rfl ?_
  refine g_callSI [.int x] (by decide +kernel : decode prog_10_method_91_code 1 = .ok (.invokestatic 240, 3)) lk_Md_240 (m_isSheet ΛM (mS σ f b) x) rfl rfl (Nat.le_of_ble_eq_true rfl) (Nat.le_of_ble_eq_true rfl) (fun r1 s1 h1 => ?_)
  rcases h1 with ⟨rfl, ⟨rfl, t, ha1, hb1, rfl⟩ | ⟨rfl, n1⟩⟩
  · refine g_if_eqN (tgt := 41) (by decide +kernel : decode prog_10_method_91_code 4 = .ok (.ifCond .eq 37, 3)) (by decide) (by decide) (fun h => False.elim (by revert h; decide)) (fun _ => ?_)
    refine g_aload_n (by decide +kernel : decode prog_10_method_91_code 7 = .ok (.aload_n 0, 1)) rfl ?_
    refine g_iload_n (by decide +kernel : decode prog_10_method_91_code 8 = .ok (.iload_n 3, 1)) rfl ?_
    refine g_callVI [.int z] (by decide +kernel : decode prog_10_method_91_code 9 = .ok (.invokevirtual 172, 3)) lk_Md_172 (m_isOne (mS σ f b) z hI.n.1 (by omega)) rfl rfl rfl rfl (Nat.le_of_ble_eq_true rfl) (Nat.le_of_ble_eq_true rfl) (fun r9 s9 h9 => ?_)
    rcases h9 with ⟨rfl, ⟨rfl, o, ho9, rfl⟩ | ⟨rfl, n9⟩⟩
    · refine g_if_eqN (tgt := 41) (by decide +kernel : decode prog_10_method_91_code 12 = .ok (.ifCond .eq 29, 3)) (by decide) (by decide) (fun h => False.elim (by revert h; decide)) (fun _ => ?_)
      refine g_iload (by decide +kernel : decode prog_10_method_91_code 15 = .ok (.iload 4, 2)) rfl ?_
      refine g_i2l (by decide +kernel : decode prog_10_method_91_code 17 = .ok (.i2l, 1)) ?_
      refine g_lconst (v := lN 0) (by decide +kernel : decode prog_10_method_91_code 18 = .ok (.lconst 0, 1)) (by decide) ?_
      refine g_ldc2 (v := lN 8) (by decide +kernel : decode prog_10_method_91_code 19 = .ok (.ldc2_w 55, 3)) kc_Md_55 ?_
      refine g_callSI [.long (Int32.toInt64 u), .long (lN 0), .long (lN 8)] (by decide +kernel : decode prog_10_method_91_code 22 = .ok (.invokestatic 57, 3)) lk_Md_57 (m_isInN ΛM (mS σ f b) u 0 8) rfl rfl (Nat.le_of_ble_eq_true rfl) (Nat.le_of_ble_eq_true rfl) (fun r22 s22 h22 => ?_)
      rcases h22 with ⟨rfl, ⟨rfl, n, ha22, hb22, rfl⟩ | ⟨rfl, n22⟩⟩
      · refine g_if_eqN (tgt := 41) (by decide +kernel : decode prog_10_method_91_code 25 = .ok (.ifCond .eq 16, 3)) (by decide) (by decide) (fun h => False.elim (by revert h; decide)) (fun _ => ?_)
        refine g_iload_n (by decide +kernel : decode prog_10_method_91_code 28 = .ok (.iload_n 3, 1)) rfl ?_
        refine g_iload (by decide +kernel : decode prog_10_method_91_code 29 = .ok (.iload 4, 2)) rfl ?_
        refine g_iaddN (by decide +kernel : decode prog_10_method_91_code 31 = .ok (.iadd, 1)) ?_
        refine g_aload_n (by decide +kernel : decode prog_10_method_91_code 32 = .ok (.aload_n 0, 1)) rfl ?_
        refine g_getR (by decide +kernel : decode prog_10_method_91_code 33 = .ok (.getfield 7, 3)) fl_Md_7 rfl rfl ?_
        refine g_iconst (v := nI 0) (by decide +kernel : decode prog_10_method_91_code 36 = .ok (.iconst 0, 1)) (by decide) ?_
        refine g_iaload (a := 0) (by decide +kernel : decode prog_10_method_91_code 37 = .ok (.iaload, 1)) rfl rfl (by decide) (by decide) ?_
        refine g_top (w := nI (nn f)) (hI.n.1) ?_
        refine g_icmp_leN (tgt := 43) (by decide +kernel : decode prog_10_method_91_code 38 = .ok (.if_icmp .le 5, 3)) (by decide) (by omega) (by omega) (fun h38 => ?_) (fun h38 => ?_)
        · obtain ⟨m, hm, e9⟩ := (hS t (by omega)).2
          have htn : tn (σ 9 t) = m := by rw [e9, tn_nI (by omega)]
          rcases (hS t (by omega)).1 with e8 | ⟨s, hs, e8⟩
          · refine g_aload_n (by decide +kernel : decode prog_10_method_91_code 43 = .ok (.aload_n 0, 1)) rfl ?_
            refine g_iload_n (by decide +kernel : decode prog_10_method_91_code 44 = .ok (.iload_n 1, 1)) rfl ?_
            refine g_iconst (v := nI 0) (by decide +kernel : decode prog_10_method_91_code 45 = .ok (.iconst 0, 1)) (by decide) ?_
            refine g_callVI [.int (nI t), .int (nI 0)] (by decide +kernel : decode prog_10_method_91_code 46 = .ok (.invokevirtual 263, 3)) lk_Md_263 (m_lacks σ f b t (by omega) (nI 0)) rfl rfl rfl rfl (Nat.le_of_ble_eq_true rfl) (Nat.le_of_ble_eq_true rfl) (fun r46 s46 h46 => ?_)
            obtain ⟨rfl, rfl⟩ := h46
            refine g_top (w := -11) (by rw [e8]; rfl) ?_
            refine g_if_eq (tgt := 59) (by decide +kernel : decode prog_10_method_91_code 49 = .ok (.ifCond .eq 10, 3)) (by decide) (fun h => False.elim (by revert h; decide)) (fun _ => ?_)
            refine g_aload_n (by decide +kernel : decode prog_10_method_91_code 52 = .ok (.aload_n 0, 1)) rfl ?_
            refine g_iload_n (by decide +kernel : decode prog_10_method_91_code 53 = .ok (.iload_n 1, 1)) rfl ?_
            refine g_iconst (v := nI 0) (by decide +kernel : decode prog_10_method_91_code 54 = .ok (.iconst 0, 1)) (by decide) ?_
            refine g_callVI [.int (nI t), .int (nI 0)] (by decide +kernel : decode prog_10_method_91_code 55 = .ok (.invokevirtual 263, 3)) lk_Md_263 (m_lacks σ f b t (by omega) (nI 0)) rfl rfl rfl rfl (Nat.le_of_ble_eq_true rfl) (Nat.le_of_ble_eq_true rfl) (fun r55 s55 h55 => ?_)
            obtain ⟨rfl, rfl⟩ := h55
            refine g_top (w := -11) (by rw [e8]; rfl) ?_
            exact g_iret hR (by decide +kernel : decode prog_10_method_91_code 58 = .ok (.ireturn, 1)) rfl ⟨_, rfl, ⟨by simp only [mindsV, mdsC, rg_of ha1 hb1, pz_of hI ho9, rg_of ha22 hb22, if_pos h38, neg8 e8], by simp only [mindsT, mdsC, rg_of ha1 hb1, pz_of hI ho9, rg_of ha22 hb22, if_pos h38, neg8 e8]⟩⟩
          · by_cases hsq : nI s = nI 0
            · refine g_aload_n (by decide +kernel : decode prog_10_method_91_code 43 = .ok (.aload_n 0, 1)) rfl ?_
              refine g_iload_n (by decide +kernel : decode prog_10_method_91_code 44 = .ok (.iload_n 1, 1)) rfl ?_
              refine g_iconst (v := nI 0) (by decide +kernel : decode prog_10_method_91_code 45 = .ok (.iconst 0, 1)) (by decide) ?_
              refine g_callVI [.int (nI t), .int (nI 0)] (by decide +kernel : decode prog_10_method_91_code 46 = .ok (.invokevirtual 263, 3)) lk_Md_263 (m_lacks σ f b t (by omega) (nI 0)) rfl rfl rfl rfl (Nat.le_of_ble_eq_true rfl) (Nat.le_of_ble_eq_true rfl) (fun r46 s46 h46 => ?_)
              obtain ⟨rfl, rfl⟩ := h46
              refine g_top (w := nI 0) (by rw [e8]; unfold lackF; rw [if_pos (nI_pos' (by omega)), if_pos hsq]) ?_
              refine g_if_eqN (tgt := 59) (by decide +kernel : decode prog_10_method_91_code 49 = .ok (.ifCond .eq 10, 3)) (by decide) (by decide) (fun _ => ?_) (fun h => False.elim (by revert h; decide))
              refine g_iload_n (by decide +kernel : decode prog_10_method_91_code 59 = .ok (.iload_n 2, 1)) rfl ?_
              refine g_i2l (by decide +kernel : decode prog_10_method_91_code 60 = .ok (.i2l, 1)) ?_
              refine g_lconst (v := lN 0) (by decide +kernel : decode prog_10_method_91_code 61 = .ok (.lconst 0, 1)) (by decide) ?_
              refine g_aload_n (by decide +kernel : decode prog_10_method_91_code 62 = .ok (.aload_n 0, 1)) rfl ?_
              refine g_getR (by decide +kernel : decode prog_10_method_91_code 63 = .ok (.getfield 34, 3)) fl_Md_34 rfl rfl ?_
              refine g_iload_n (by decide +kernel : decode prog_10_method_91_code 66 = .ok (.iload_n 1, 1)) rfl ?_
              refine g_iaload (a := t) (by decide +kernel : decode prog_10_method_91_code 67 = .ok (.iaload, 1)) rfl rfl (by omega) (by decide) ?_
              refine g_top (w := nI m) (e9) ?_
              refine g_i2lN (by decide +kernel : decode prog_10_method_91_code 68 = .ok (.i2l, 1)) (by omega) ?_
              refine g_callSI [.long (Int32.toInt64 y), .long (lN 0), .long (lN m)] (by decide +kernel : decode prog_10_method_91_code 69 = .ok (.invokestatic 57, 3)) lk_Md_57 (m_isInN ΛM (mS σ f b) y 0 m (by omega) (Nat.zero_le _)) rfl rfl (Nat.le_of_ble_eq_true rfl) (Nat.le_of_ble_eq_true rfl) (fun r69 s69 h69 => ?_)
              rcases h69 with ⟨rfl, ⟨rfl, i, ha69, hb69, rfl⟩ | ⟨rfl, n69⟩⟩
              · refine g_if_eqN (tgt := 92) (by decide +kernel : decode prog_10_method_91_code 72 = .ok (.ifCond .eq 20, 3)) (by decide) (by decide) (fun h => False.elim (by revert h; decide)) (fun _ => ?_)
                refine g_iload_n (by decide +kernel : decode prog_10_method_91_code 75 = .ok (.iload_n 2, 1)) rfl ?_
                refine g_i2lN (by decide +kernel : decode prog_10_method_91_code 76 = .ok (.i2l, 1)) (by omega) ?_
                refine g_iload (by decide +kernel : decode prog_10_method_91_code 77 = .ok (.iload 4, 2)) rfl ?_
                refine g_i2lN (by decide +kernel : decode prog_10_method_91_code 79 = .ok (.i2l, 1)) (by omega) ?_
                refine g_ladd (by decide +kernel : decode prog_10_method_91_code 80 = .ok (.ladd, 1)) ?_
                refine g_aload_n (by decide +kernel : decode prog_10_method_91_code 81 = .ok (.aload_n 0, 1)) rfl ?_
                refine g_getR (by decide +kernel : decode prog_10_method_91_code 82 = .ok (.getfield 34, 3)) fl_Md_34 rfl rfl ?_
                refine g_iload_n (by decide +kernel : decode prog_10_method_91_code 85 = .ok (.iload_n 1, 1)) rfl ?_
                refine g_iaload (a := t) (by decide +kernel : decode prog_10_method_91_code 86 = .ok (.iaload, 1)) rfl rfl (by omega) (by decide) ?_
                refine g_top (w := nI m) (e9) ?_
                refine g_i2lN (by decide +kernel : decode prog_10_method_91_code 87 = .ok (.i2l, 1)) (by omega) ?_
                refine g_lcmp (by decide +kernel : decode prog_10_method_91_code 88 = .ok (.lcmp, 1)) ?_
                refine g_if_le (tgt := 95) (by decide +kernel : decode prog_10_method_91_code 89 = .ok (.ifCond .le 6, 3)) (by decide) (fun h89 => ?_) (fun h89 => ?_)
                · have him : i + n ≤ m := (lg_add (by omega) (by omega) (by omega)).mp h89
                  refine g_iconst (v := nI 0) (by decide +kernel : decode prog_10_method_91_code 95 = .ok (.iconst 0, 1)) (by decide) ?_
                  refine g_istore (L' := [some (.ref 0), some (.int (nI t)), some (.int (nI i)), some (.int (nI o)), some (.int (nI n)), some (.int (nI 0))]) (by decide +kernel : decode prog_10_method_91_code 96 = .ok (.istore 5, 2)) (Nat.le_of_ble_eq_true rfl) rfl ?_
                  exact q_minds_lp (by omega) (by omega) (by omega) ⟨_, rfl, by simp only [mindsV, mdsC, rg_of ha1 hb1, pz_of hI ho9, rg_of ha22 hb22, if_pos h38, pos8 hs e8, if_pos (e8.trans hsq), rg_of ha69 hb69 (show m < 2 ^ 31 by omega), if_pos ((lg_add (show i < 2 ^ 30 by omega) (show n < 2 ^ 30 by omega) (show m < 2 ^ 30 by omega)).mp h89), htn], by simp only [mindsT, mdsC, rg_of ha1 hb1, pz_of hI ho9, rg_of ha22 hb22, if_pos h38, pos8 hs e8, if_pos (e8.trans hsq), rg_of ha69 hb69 (show m < 2 ^ 31 by omega), if_pos ((lg_add (show i < 2 ^ 30 by omega) (show n < 2 ^ 30 by omega) (show m < 2 ^ 30 by omega)).mp h89), htn]⟩ (n + 1) 0 (Nat.zero_le _) (by omega) hR
                · refine g_bipush (v := (-12)) (by decide +kernel : decode prog_10_method_91_code 92 = .ok (.bipush (-12), 2)) (by decide) ?_
                  exact g_iret hR (by decide +kernel : decode prog_10_method_91_code 94 = .ok (.ireturn, 1)) rfl ⟨_, rfl, ⟨by simp only [mindsV, mdsC, rg_of ha1 hb1, pz_of hI ho9, rg_of ha22 hb22, if_pos h38, pos8 hs e8, if_pos (e8.trans hsq), rg_of ha69 hb69 (show m < 2 ^ 31 by omega), if_neg (fun z => h89 ((lg_add (show i < 2 ^ 30 by omega) (show n < 2 ^ 30 by omega) (show m < 2 ^ 30 by omega)).mpr z)), htn], by simp only [mindsT, mdsC, rg_of ha1 hb1, pz_of hI ho9, rg_of ha22 hb22, if_pos h38, pos8 hs e8, if_pos (e8.trans hsq), rg_of ha69 hb69 (show m < 2 ^ 31 by omega), if_neg (fun z => h89 ((lg_add (show i < 2 ^ 30 by omega) (show n < 2 ^ 30 by omega) (show m < 2 ^ 30 by omega)).mpr z)), htn]⟩⟩
              · refine g_if_eqN (tgt := 92) (by decide +kernel : decode prog_10_method_91_code 72 = .ok (.ifCond .eq 20, 3)) (by decide) (by decide) (fun _ => ?_) (fun h => False.elim (by revert h; decide))
                refine g_bipush (v := (-12)) (by decide +kernel : decode prog_10_method_91_code 92 = .ok (.bipush (-12), 2)) (by decide) ?_
                exact g_iret hR (by decide +kernel : decode prog_10_method_91_code 94 = .ok (.ireturn, 1)) rfl ⟨_, rfl, ⟨by simp only [mindsV, mdsC, rg_of ha1 hb1, pz_of hI ho9, rg_of ha22 hb22, if_pos h38, pos8 hs e8, if_pos (e8.trans hsq), rg_none n69 (show m < 2 ^ 31 by omega) (Nat.zero_le _), htn], by simp only [mindsT, mdsC, rg_of ha1 hb1, pz_of hI ho9, rg_of ha22 hb22, if_pos h38, pos8 hs e8, if_pos (e8.trans hsq), rg_none n69 (show m < 2 ^ 31 by omega) (Nat.zero_le _), htn]⟩⟩
            · refine g_aload_n (by decide +kernel : decode prog_10_method_91_code 43 = .ok (.aload_n 0, 1)) rfl ?_
              refine g_iload_n (by decide +kernel : decode prog_10_method_91_code 44 = .ok (.iload_n 1, 1)) rfl ?_
              refine g_iconst (v := nI 0) (by decide +kernel : decode prog_10_method_91_code 45 = .ok (.iconst 0, 1)) (by decide) ?_
              refine g_callVI [.int (nI t), .int (nI 0)] (by decide +kernel : decode prog_10_method_91_code 46 = .ok (.invokevirtual 263, 3)) lk_Md_263 (m_lacks σ f b t (by omega) (nI 0)) rfl rfl rfl rfl (Nat.le_of_ble_eq_true rfl) (Nat.le_of_ble_eq_true rfl) (fun r46 s46 h46 => ?_)
              obtain ⟨rfl, rfl⟩ := h46
              refine g_top (w := -13) (by rw [e8]; unfold lackF; rw [if_pos (nI_pos' (by omega)), if_neg hsq]) ?_
              refine g_if_eq (tgt := 59) (by decide +kernel : decode prog_10_method_91_code 49 = .ok (.ifCond .eq 10, 3)) (by decide) (fun h => False.elim (by revert h; decide)) (fun _ => ?_)
              refine g_aload_n (by decide +kernel : decode prog_10_method_91_code 52 = .ok (.aload_n 0, 1)) rfl ?_
              refine g_iload_n (by decide +kernel : decode prog_10_method_91_code 53 = .ok (.iload_n 1, 1)) rfl ?_
              refine g_iconst (v := nI 0) (by decide +kernel : decode prog_10_method_91_code 54 = .ok (.iconst 0, 1)) (by decide) ?_
              refine g_callVI [.int (nI t), .int (nI 0)] (by decide +kernel : decode prog_10_method_91_code 55 = .ok (.invokevirtual 263, 3)) lk_Md_263 (m_lacks σ f b t (by omega) (nI 0)) rfl rfl rfl rfl (Nat.le_of_ble_eq_true rfl) (Nat.le_of_ble_eq_true rfl) (fun r55 s55 h55 => ?_)
              obtain ⟨rfl, rfl⟩ := h55
              refine g_top (w := -13) (by rw [e8]; unfold lackF; rw [if_pos (nI_pos' (by omega)), if_neg hsq]) ?_
              exact g_iret hR (by decide +kernel : decode prog_10_method_91_code 58 = .ok (.ireturn, 1)) rfl ⟨_, rfl, ⟨by simp only [mindsV, mdsC, rg_of ha1 hb1, pz_of hI ho9, rg_of ha22 hb22, if_pos h38, pos8 hs e8, if_neg (fun z => hsq (e8.symm.trans z))], by simp only [mindsT, mdsC, rg_of ha1 hb1, pz_of hI ho9, rg_of ha22 hb22, if_pos h38, pos8 hs e8, if_neg (fun z => hsq (e8.symm.trans z))]⟩⟩
        · refine g_iconst (v := (-1)) (by decide +kernel : decode prog_10_method_91_code 41 = .ok (.iconst (-1), 1)) (by decide) ?_
          exact g_iret hR (by decide +kernel : decode prog_10_method_91_code 42 = .ok (.ireturn, 1)) rfl ⟨_, rfl, ⟨by simp only [mindsV, mdsC, rg_of ha1 hb1, pz_of hI ho9, rg_of ha22 hb22, if_neg h38], by simp only [mindsT, mdsC, rg_of ha1 hb1, pz_of hI ho9, rg_of ha22 hb22, if_neg h38]⟩⟩
      · refine g_if_eqN (tgt := 41) (by decide +kernel : decode prog_10_method_91_code 25 = .ok (.ifCond .eq 16, 3)) (by decide) (by decide) (fun _ => ?_) (fun h => False.elim (by revert h; decide))
        refine g_iconst (v := (-1)) (by decide +kernel : decode prog_10_method_91_code 41 = .ok (.iconst (-1), 1)) (by decide) ?_
        exact g_iret hR (by decide +kernel : decode prog_10_method_91_code 42 = .ok (.ireturn, 1)) rfl ⟨_, rfl, ⟨by simp only [mindsV, mdsC, rg_of ha1 hb1, pz_of hI ho9, rg_none n22], by simp only [mindsT, mdsC, rg_of ha1 hb1, pz_of hI ho9, rg_none n22]⟩⟩
    · refine g_if_eqN (tgt := 41) (by decide +kernel : decode prog_10_method_91_code 12 = .ok (.ifCond .eq 29, 3)) (by decide) (by decide) (fun _ => ?_) (fun h => False.elim (by revert h; decide))
      refine g_iconst (v := (-1)) (by decide +kernel : decode prog_10_method_91_code 41 = .ok (.iconst (-1), 1)) (by decide) ?_
      exact g_iret hR (by decide +kernel : decode prog_10_method_91_code 42 = .ok (.ireturn, 1)) rfl ⟨_, rfl, ⟨by simp only [mindsV, mdsC, rg_of ha1 hb1, pz_none hI n9], by simp only [mindsT, mdsC, rg_of ha1 hb1, pz_none hI n9]⟩⟩
  · refine g_if_eqN (tgt := 41) (by decide +kernel : decode prog_10_method_91_code 4 = .ok (.ifCond .eq 37, 3)) (by decide) (by decide) (fun _ => ?_) (fun h => False.elim (by revert h; decide))
    refine g_iconst (v := (-1)) (by decide +kernel : decode prog_10_method_91_code 41 = .ok (.iconst (-1), 1)) (by decide) ?_
    exact g_iret hR (by decide +kernel : decode prog_10_method_91_code 42 = .ok (.ireturn, 1)) rfl ⟨_, rfl, ⟨by simp only [mindsV, mdsC, rg_none n1], by simp only [mindsT, mdsC, rg_none n1]⟩⟩
/-- what the numbers of a sheet tell from the k-th year on is where one is -/
def tld (f : Row) (o : Nat) (R : Row) (q : Nat) : Nat → Nat → Bool
  | 0, _ => true
  | j + 1, k => if R (q + k) = -1 ∨ R (q + k) = yN 255 f (k + 1) (19 + 6 * o + 3) then tld f o R q j (k + 1) else false
theorem tld_yes {f R : Row} {o q n k : Nat} (hk : k < n) (h : R (q + k) = -1 ∨ R (q + k) = yN 255 f (k + 1) (19 + 6 * o + 3)) : tld f o R q (n - k) k = tld f o R q (n - (k + 1)) (k + 1) := by
  rw [show n - k = (n - (k + 1)) + 1 by omega]
  show (if _ then _ else _) = _
  rw [if_pos h]
theorem tld_no {f R : Row} {o q n k : Nat} (hk : k < n) (h : ¬ (R (q + k) = -1 ∨ R (q + k) = yN 255 f (k + 1) (19 + 6 * o + 3))) : tld f o R q (n - k) k = false := by
  rw [show n - k = (n - (k + 1)) + 1 by omega]
  show (if _ then _ else _) = _
  rw [if_neg h]
set_option maxRecDepth 20000 in
theorem m_told_lp {X : CX} {σ : Store} {f b : Row} (hI : Inv f) {o : Nat} (ho : o < nn f) {t n : Nat} (ht : t < 4) (e9 : σ 9 t = nI n) (hn : n ≤ 40) {c : Bool} : ∀ (b9 k : Nat), k ≤ n → n - k < b9 → tld f o (σ 10) (40 * t) (n - k) k = c → Rt (ΛM, mt_Md_isTold, 4) (PI (fun r σ' => r = nI (if c then 1 else 0) ∧ Jk σ f σ')) X → G (ΛM, mt_Md_isTold, 4) X (mS (s_row σ 3 f) (yN 255 f k) (yB 255 f b k)) [some (.ref 0), some (.int (nI t)), some (.int (nI o)), some (.int (nI 1)), some (.int (nI k))] [] 16 := by
  have hn8 := hI.n.2
  intro b9
  induction b9 with
  | zero => intro k hk hb hc hR; omega
  | succ b9 ih =>
  intro k hk hb hc hR
  refine g_iload (by decide +kernel : decode prog_10_method_76_code 16 = .ok (.iload 4, 2)) rfl ?_
  refine g_aload_n (by decide +kernel : decode prog_10_method_76_code 18 = .ok (.aload_n 0, 1)) rfl ?_
  refine g_getR (by decide +kernel : decode prog_10_method_76_code 19 = .ok (.getfield 34, 3)) fl_Md_34 rfl rfl ?_
  refine g_iload_n (by decide +kernel : decode prog_10_method_76_code 22 = .ok (.iload_n 1, 1)) rfl ?_
  refine g_iaload (a := t) (by decide +kernel : decode prog_10_method_76_code 23 = .ok (.iaload, 1)) rfl rfl (by omega) (by decide) ?_
  refine g_top (w := nI n) (e9) ?_
  refine g_icmp_geN (tgt := 87) (by decide +kernel : decode prog_10_method_76_code 24 = .ok (.if_icmp .ge 63, 3)) (by decide) (by omega) (by omega) (fun h24 => ?_) (fun h24 => ?_)
  · refine g_aload_n (by decide +kernel : decode prog_10_method_76_code 87 = .ok (.aload_n 0, 1)) rfl ?_
    refine g_getR (by decide +kernel : decode prog_10_method_76_code 88 = .ok (.getfield 16, 3)) fl_Md_16 rfl rfl ?_
    refine g_aload_n (by decide +kernel : decode prog_10_method_76_code 91 = .ok (.aload_n 0, 1)) rfl ?_
    refine g_getR (by decide +kernel : decode prog_10_method_76_code 92 = .ok (.getfield 7, 3)) fl_Md_7 rfl rfl ?_
    refine g_callSV [.ref 3, .ref 1] (by decide +kernel : decode prog_10_method_76_code 95 = .ok (.invokestatic 141, 3)) lk_Md_141 (m_back σ f (yN 255 f k) (yB 255 f b k)) rfl rfl (Nat.le_of_ble_eq_true rfl) (Nat.le_of_ble_eq_true rfl) (fun s95 h95 => ?_)
    obtain rfl := h95
    refine g_iload_n (by decide +kernel : decode prog_10_method_76_code 98 = .ok (.iload_n 3, 1)) rfl ?_
    exact g_zret hR (by decide +kernel : decode prog_10_method_76_code 99 = .ok (.ireturn, 1)) rfl (by decide) ⟨_, rfl, ⟨by rw [← hc, show n - k = 0 by omega]; rfl, ⟨_, _, rfl⟩⟩⟩
  · refine g_iload_n (by decide +kernel : decode prog_10_method_76_code 27 = .ok (.iload_n 3, 1)) rfl ?_
    refine g_if_eqN (tgt := 87) (by decide +kernel : decode prog_10_method_76_code 28 = .ok (.ifCond .eq 59, 3)) (by decide) (by decide) (fun h => False.elim (by revert h; decide)) (fun _ => ?_)
    refine g_aload_n (by decide +kernel : decode prog_10_method_76_code 31 = .ok (.aload_n 0, 1)) rfl ?_
    refine g_sipush (v := nI 255) (by decide +kernel : decode prog_10_method_76_code 32 = .ok (.sipush 255, 3)) (by decide) ?_
    refine g_callVV [.int (nI 255)] (by decide +kernel : decode prog_10_method_76_code 35 = .ok (.invokevirtual 202, 3)) lk_Md_202 ((m_goesBy (s_row σ 3 f) (yN 255 f k) (yB 255 f b k) (yN_inv hI k).1 255 (by omega))) rfl rfl rfl rfl (Nat.le_of_ble_eq_true rfl) (Nat.le_of_ble_eq_true rfl) (fun s35 h35 => ?_)
    obtain rfl := h35
    refine g_sto (σ' := mS (s_row σ 3 f) (yN 255 f (k + 1)) (yB 255 f b (k + 1))) (by rw [yr_1]; rfl) ?_
    refine g_aload_n (by decide +kernel : decode prog_10_method_76_code 38 = .ok (.aload_n 0, 1)) rfl ?_
    refine g_getR (by decide +kernel : decode prog_10_method_76_code 39 = .ok (.getfield 37, 3)) fl_Md_37 rfl rfl ?_
    refine g_bipush (v := nI 40) (by decide +kernel : decode prog_10_method_76_code 42 = .ok (.bipush 40, 2)) (by decide) ?_
    refine g_iload_n (by decide +kernel : decode prog_10_method_76_code 44 = .ok (.iload_n 1, 1)) rfl ?_
    refine g_imulN (by decide +kernel : decode prog_10_method_76_code 45 = .ok (.imul, 1)) ?_
    refine g_iload (by decide +kernel : decode prog_10_method_76_code 46 = .ok (.iload 4, 2)) rfl ?_
    refine g_iaddN (by decide +kernel : decode prog_10_method_76_code 48 = .ok (.iadd, 1)) ?_
    refine g_iaload (a := 40 * t + k) (by decide +kernel : decode prog_10_method_76_code 49 = .ok (.iaload, 1)) rfl rfl (by omega) (by decide) ?_
    refine g_top (w := σ 10 (40 * t + k)) (rfl) ?_
    refine g_iconst (v := (-1)) (by decide +kernel : decode prog_10_method_76_code 50 = .ok (.iconst (-1), 1)) (by decide) ?_
    refine g_icmp_eq (tgt := 75) (by decide +kernel : decode prog_10_method_76_code 51 = .ok (.if_icmp .eq 24, 3)) (by decide) (fun h51 => ?_) (fun h51 => ?_)
    · refine g_iconst (v := nI 1) (by decide +kernel : decode prog_10_method_76_code 75 = .ok (.iconst 1, 1)) (by decide) ?_
      refine g_goto (tgt := 80) (by decide +kernel : decode prog_10_method_76_code 76 = .ok (.goto 4, 3)) (by decide) ?_
      refine g_istore_n (L' := [some (.ref 0), some (.int (nI t)), some (.int (nI o)), some (.int (nI 1)), some (.int (nI k))]) (by decide +kernel : decode prog_10_method_76_code 80 = .ok (.istore_n 3, 1)) (Nat.le_of_ble_eq_true rfl) rfl ?_
      refine g_iincN (n := 1) (L' := [some (.ref 0), some (.int (nI t)), some (.int (nI o)), some (.int (nI 1)), some (.int (nI (k + 1)))]) (by decide +kernel : decode prog_10_method_76_code 81 = .ok (.iinc 4 1, 3)) rfl (by decide) (Nat.le_of_ble_eq_true rfl) rfl ?_
      refine g_goto (tgt := 16) (by decide +kernel : decode prog_10_method_76_code 84 = .ok (.goto (-68), 3)) (by decide) ?_
      exact ih (k + 1) (by omega) (by omega) (by rw [← hc]; exact (tld_yes (by omega) (Or.inl h51)).symm) hR
    · refine g_aload_n (by decide +kernel : decode prog_10_method_76_code 54 = .ok (.aload_n 0, 1)) rfl ?_
      refine g_getR (by decide +kernel : decode prog_10_method_76_code 55 = .ok (.getfield 37, 3)) fl_Md_37 rfl rfl ?_
      refine g_bipush (v := nI 40) (by decide +kernel : decode prog_10_method_76_code 58 = .ok (.bipush 40, 2)) (by decide) ?_
      refine g_iload_n (by decide +kernel : decode prog_10_method_76_code 60 = .ok (.iload_n 1, 1)) rfl ?_
      refine g_imulN (by decide +kernel : decode prog_10_method_76_code 61 = .ok (.imul, 1)) ?_
      refine g_iload (by decide +kernel : decode prog_10_method_76_code 62 = .ok (.iload 4, 2)) rfl ?_
      refine g_iaddN (by decide +kernel : decode prog_10_method_76_code 64 = .ok (.iadd, 1)) ?_
      refine g_iaload (a := 40 * t + k) (by decide +kernel : decode prog_10_method_76_code 65 = .ok (.iaload, 1)) rfl rfl (by omega) (by decide) ?_
      refine g_top (w := σ 10 (40 * t + k)) (rfl) ?_
      refine g_aload_n (by decide +kernel : decode prog_10_method_76_code 66 = .ok (.aload_n 0, 1)) rfl ?_
      refine g_iload_n (by decide +kernel : decode prog_10_method_76_code 67 = .ok (.iload_n 2, 1)) rfl ?_
      refine g_iconst (v := nI 3) (by decide +kernel : decode prog_10_method_76_code 68 = .ok (.iconst 3, 1)) (by decide) ?_
      refine g_callVI [.int (nI o), .int (nI 3)] (by decide +kernel : decode prog_10_method_76_code 69 = .ok (.invokevirtual 169, 3)) lk_Md_169 (m_its (mS (s_row σ 3 f) (yN 255 f (k + 1)) (yB 255 f b (k + 1))) o 3 (v := yN 255 f (k + 1) (19 + 6 * o + 3)) rfl (by omega)) rfl rfl rfl rfl (Nat.le_of_ble_eq_true rfl) (Nat.le_of_ble_eq_true rfl) (fun r69 s69 h69 => ?_)
      obtain ⟨rfl, rfl⟩ := h69
      refine g_icmp_ne (tgt := 79) (by decide +kernel : decode prog_10_method_76_code 72 = .ok (.if_icmp .ne 7, 3)) (by decide) (fun h72 => ?_) (fun h72 => ?_)
      · refine g_iconst (v := nI 0) (by decide +kernel : decode prog_10_method_76_code 79 = .ok (.iconst 0, 1)) (by decide) ?_
        refine g_istore_n (L' := [some (.ref 0), some (.int (nI t)), some (.int (nI o)), some (.int (nI 0)), some (.int (nI k))]) (by decide +kernel : decode prog_10_method_76_code 80 = .ok (.istore_n 3, 1)) (Nat.le_of_ble_eq_true rfl) rfl ?_
        refine g_iincN (n := 1) (L' := [some (.ref 0), some (.int (nI t)), some (.int (nI o)), some (.int (nI 0)), some (.int (nI (k + 1)))]) (by decide +kernel : decode prog_10_method_76_code 81 = .ok (.iinc 4 1, 3)) rfl (by decide) (Nat.le_of_ble_eq_true rfl) rfl ?_
        refine g_goto (tgt := 16) (by decide +kernel : decode prog_10_method_76_code 84 = .ok (.goto (-68), 3)) (by decide) ?_
        refine g_iload (by decide +kernel : decode prog_10_method_76_code 16 = .ok (.iload 4, 2)) rfl ?_
        refine g_aload_n (by decide +kernel : decode prog_10_method_76_code 18 = .ok (.aload_n 0, 1)) rfl ?_
        refine g_getR (by decide +kernel : decode prog_10_method_76_code 19 = .ok (.getfield 34, 3)) fl_Md_34 rfl rfl ?_
        refine g_iload_n (by decide +kernel : decode prog_10_method_76_code 22 = .ok (.iload_n 1, 1)) rfl ?_
        refine g_iaload (a := t) (by decide +kernel : decode prog_10_method_76_code 23 = .ok (.iaload, 1)) rfl rfl (by omega) (by decide) ?_
        refine g_top (w := nI n) (e9) ?_
        refine g_icmp_geN (tgt := 87) (by decide +kernel : decode prog_10_method_76_code 24 = .ok (.if_icmp .ge 63, 3)) (by decide) (by omega) (by omega) (fun h24 => ?_) (fun h24 => ?_)
        · refine g_aload_n (by decide +kernel : decode prog_10_method_76_code 87 = .ok (.aload_n 0, 1)) rfl ?_
          refine g_getR (by decide +kernel : decode prog_10_method_76_code 88 = .ok (.getfield 16, 3)) fl_Md_16 rfl rfl ?_
          refine g_aload_n (by decide +kernel : decode prog_10_method_76_code 91 = .ok (.aload_n 0, 1)) rfl ?_
          refine g_getR (by decide +kernel : decode prog_10_method_76_code 92 = .ok (.getfield 7, 3)) fl_Md_7 rfl rfl ?_
          refine g_callSV [.ref 3, .ref 1] (by decide +kernel : decode prog_10_method_76_code 95 = .ok (.invokestatic 141, 3)) lk_Md_141 (m_back σ f (yN 255 f (k + 1)) (yB 255 f b (k + 1))) rfl rfl (Nat.le_of_ble_eq_true rfl) (Nat.le_of_ble_eq_true rfl) (fun s95 h95 => ?_)
          obtain rfl := h95
          refine g_iload_n (by decide +kernel : decode prog_10_method_76_code 98 = .ok (.iload_n 3, 1)) rfl ?_
          exact g_zret hR (by decide +kernel : decode prog_10_method_76_code 99 = .ok (.ireturn, 1)) rfl (by decide) ⟨_, rfl, ⟨by rw [← hc, tld_no (by omega) (fun z => z.elim h51 h72)]; rfl, ⟨_, _, rfl⟩⟩⟩
        · refine g_iload_n (by decide +kernel : decode prog_10_method_76_code 27 = .ok (.iload_n 3, 1)) rfl ?_
          refine g_if_eqN (tgt := 87) (by decide +kernel : decode prog_10_method_76_code 28 = .ok (.ifCond .eq 59, 3)) (by decide) (by decide) (fun _ => ?_) (fun h => False.elim (by revert h; decide))
          refine g_aload_n (by decide +kernel : decode prog_10_method_76_code 87 = .ok (.aload_n 0, 1)) rfl ?_
          refine g_getR (by decide +kernel : decode prog_10_method_76_code 88 = .ok (.getfield 16, 3)) fl_Md_16 rfl rfl ?_
          refine g_aload_n (by decide +kernel : decode prog_10_method_76_code 91 = .ok (.aload_n 0, 1)) rfl ?_
          refine g_getR (by decide +kernel : decode prog_10_method_76_code 92 = .ok (.getfield 7, 3)) fl_Md_7 rfl rfl ?_
          refine g_callSV [.ref 3, .ref 1] (by decide +kernel : decode prog_10_method_76_code 95 = .ok (.invokestatic 141, 3)) lk_Md_141 (m_back σ f (yN 255 f (k + 1)) (yB 255 f b (k + 1))) rfl rfl (Nat.le_of_ble_eq_true rfl) (Nat.le_of_ble_eq_true rfl) (fun s95 h95 => ?_)
          obtain rfl := h95
          refine g_iload_n (by decide +kernel : decode prog_10_method_76_code 98 = .ok (.iload_n 3, 1)) rfl ?_
          exact g_zret hR (by decide +kernel : decode prog_10_method_76_code 99 = .ok (.ireturn, 1)) rfl (by decide) ⟨_, rfl, ⟨by rw [← hc, tld_no (by omega) (fun z => z.elim h51 h72)]; rfl, ⟨_, _, rfl⟩⟩⟩
      · refine g_iconst (v := nI 1) (by decide +kernel : decode prog_10_method_76_code 75 = .ok (.iconst 1, 1)) (by decide) ?_
        refine g_goto (tgt := 80) (by decide +kernel : decode prog_10_method_76_code 76 = .ok (.goto 4, 3)) (by decide) ?_
        refine g_istore_n (L' := [some (.ref 0), some (.int (nI t)), some (.int (nI o)), some (.int (nI 1)), some (.int (nI k))]) (by decide +kernel : decode prog_10_method_76_code 80 = .ok (.istore_n 3, 1)) (Nat.le_of_ble_eq_true rfl) rfl ?_
        refine g_iincN (n := 1) (L' := [some (.ref 0), some (.int (nI t)), some (.int (nI o)), some (.int (nI 1)), some (.int (nI (k + 1)))]) (by decide +kernel : decode prog_10_method_76_code 81 = .ok (.iinc 4 1, 3)) rfl (by decide) (Nat.le_of_ble_eq_true rfl) rfl ?_
        refine g_goto (tgt := 16) (by decide +kernel : decode prog_10_method_76_code 84 = .ok (.goto (-68), 3)) (by decide) ?_
        exact ih (k + 1) (by omega) (by omega) (by rw [← hc]; exact (tld_yes (by omega) (Or.inr h72)).symm) hR
set_option maxRecDepth 20000 in
theorem m_isTold (σ : Store) (f b : Row) (hI : Inv f) (o : Nat) (ho : o < nn f) (t n : Nat) (ht : t < 4) (e9 : σ 9 t = nI n) (hn : n ≤ 40) : Ct ΛM mt_Md_isTold 4 [.ref 0, .int (nI t), .int (nI o)] (mS σ f b) (PI (fun r σ' => r = nI (if tld f o (σ 10) (40 * t) n 0 then 1 else 0) ∧ Jk σ f σ')) := by
  refine Ct.of (by decide) (Nat.le_of_ble_eq_true rfl) (fun X hR => ?_)
  show G (ΛM, mt_Md_isTold, 4) X (mS σ f b) [some (.ref 0), some (.int (nI t)), some (.int (nI o)), none, none] [] 0
  refine g_aload_n (by decide +kernel : decode prog_10_method_76_code 0 = .ok (.aload_n 0, 1)) rfl ?_
  refine g_getR (by decide +kernel : decode prog_10_method_76_code 1 = .ok (.getfield 7, 3)) fl_Md_7 rfl rfl ?_
  refine g_aload_n (by decide +kernel : decode prog_10_method_76_code 4 = .ok (.aload_n 0, 1)) rfl ?_
  refine g_getR (by decide +kernel : decode prog_10_method_76_code 5 = .ok (.getfield 16, 3)) fl_Md_16 rfl rfl ?_
  refine g_callSV [.ref 1, .ref 3] (by decide +kernel : decode prog_10_method_76_code 8 = .ok (.invokestatic 141, 3)) lk_Md_141 (m_aside σ f b) rfl rfl (Nat.le_of_ble_eq_true rfl) (Nat.le_of_ble_eq_true rfl) (fun s8 h8 => ?_)
  obtain rfl := h8
  refine g_iconst (v := nI 1) (by decide +kernel : decode prog_10_method_76_code 11 = .ok (.iconst 1, 1)) (by decide) ?_
  refine g_istore_n (L' := [some (.ref 0), some (.int (nI t)), some (.int (nI o)), some (.int (nI 1)), none]) (by decide +kernel : decode prog_10_method_76_code 12 = .ok (.istore_n 3, 1)) (Nat.le_of_ble_eq_true rfl) rfl ?_
  refine g_iconst (v := nI 0) (by decide +kernel : decode prog_10_method_76_code 13 = .ok (.iconst 0, 1)) (by decide) ?_
  refine g_istore (L' := [some (.ref 0), some (.int (nI t)), some (.int (nI o)), some (.int (nI 1)), some (.int (nI 0))]) (by decide +kernel : decode prog_10_method_76_code 14 = .ok (.istore 4, 2)) (Nat.le_of_ble_eq_true rfl) rfl ?_
  exact m_told_lp hI ho ht e9 hn (n + 1) 0 (Nat.zero_le _) (by omega) rfl hR
