/-! THE PROGRAM: the tape read -/
abbrev ΛT : Lay := [.inr (3, [some 1, none, none, none, none, none]), .inl (true, 200)]
def sb (c : Nat) : Int32 := (nI c).toInt8.toInt32
theorem sb_all : ∀ c : Fin 256, (c.val < 128 → sb c.val = nI c.val) ∧ (128 ≤ c.val → sb c.val < 0) := by decide +kernel
theorem sb_lo {c : Nat} (h : c < 128) : sb c = nI c := (sb_all ⟨c, by omega⟩).1 h
theorem sb_hi {c : Nat} (h : 128 ≤ c) (h2 : c ≤ 255) : sb c < 0 := (sb_all ⟨c, by omega⟩).2 h
theorem sb_eq {c d : Nat} (hc : c ≤ 255) (hd : d < 128) : sb c = nI d ↔ c = d := by
  by_cases h : c < 128
  · rw [sb_lo h, nI_eq (by omega) (by omega)]
  · constructor
    · intro q
      have := sb_hi (by omega) hc
      rw [q] at this
      exact absurd this (nI_pos (by omega))
    · intro q; omega
theorem sb_lt {c d : Nat} (hc : c ≤ 255) (hd : d < 128) : sb c < nI d ↔ (c < d ∨ 128 ≤ c) := by
  by_cases h : c < 128
  · rw [sb_lo h, nI_ltI (by omega) (by omega)]; omega
  · constructor
    · intro _; omega
    · intro _; exact Int32.lt_of_lt_of_le (sb_hi (by omega) hc) (nI_pos' (by omega))
theorem sb_gt {c d : Nat} (hc : c ≤ 255) (hd : d < 128) : nI d < sb c ↔ (d < c ∧ c < 128) := by
  by_cases h : c < 128
  · rw [sb_lo h, nI_ltI (by omega) (by omega)]; omega
  · constructor
    · intro q; exact absurd (Int32.lt_trans q (sb_hi (by omega) hc)) (nI_pos (by omega))
    · intro q; omega
theorem so_1 {c : Nat} (hc : c ≤ 255) (h1 : ¬ sb c < nI 97) (h2 : ¬ nI 122 < sb c) : cl c = 1 := by
  rw [sb_lt hc (by decide)] at h1
  rw [sb_gt hc (by decide)] at h2
  exact cl_1.mpr (by omega)
theorem so_n {c : Nat} (hc : c ≤ 255) (h : sb c < nI 97 ∨ nI 122 < sb c) : ¬ (97 ≤ c ∧ c ≤ 122) := by
  rw [sb_lt hc (by decide), sb_gt hc (by decide)] at h
  omega
theorem so_2 {c : Nat} (hc : c ≤ 255) (h1 : ¬ sb c < nI 48) (h2 : ¬ nI 57 < sb c) : cl c = 2 := by
  rw [sb_lt hc (by decide)] at h1
  rw [sb_gt hc (by decide)] at h2
  exact cl_2.mpr (by omega)
theorem so_3 {c : Nat} (hc : c ≤ 255) (h : sb c < nI 97 ∨ nI 122 < sb c) (h2 : sb c < nI 48 ∨ nI 57 < sb c) : cl c = 3 := by
  have h1 := so_n hc h
  rw [sb_lt hc (by decide), sb_gt hc (by decide)] at h2
  unfold cl
  rw [if_neg h1, if_neg (by omega)]
/-- the tape's t bytes B, its fault -/
def Tb (B : Nat → Nat) (t : Nat) (σ : Store) (F : Int32) : Prop := σ 0 1 = nI t ∧ σ 0 5 = F ∧ t ≤ 200 ∧ ∀ i, i < t → B i ≤ 255 ∧ σ 1 i = sb (B i)
/-- and the token at q -/
def Tk (B : Nat → Nat) (t : Nat) (σ : Store) (q : Nat) (F : Int32) : Prop := Tb B t σ F ∧ q ≤ t ∧ σ 0 2 = nI (kd B t q) ∧ σ 0 3 = nI q ∧ σ 0 4 = nI (en B t q)
def fl (F : Int32) (q : Nat) : Int32 := if F = -1 then nI q else F
set_option maxRecDepth 20000 in
theorem s_sortAt {σ : Store} {B : Nat → Nat} {t : Nat} {F : Int32} (hT : Tb B t σ F) {i : Nat} (hi : i ≤ t) : Ct ΛT mt_Tp_sortAt 0 [.ref 0, .int (nI i)] σ (PF (nI (kd B t i)) σ) := by
  refine Ct.of (by decide) (Nat.le_of_ble_eq_true rfl) (fun X hR => ?_)
  show G (ΛT, mt_Tp_sortAt, 0) X σ [some (.ref 0), some (.int (nI i))] [] 0
  have ht2 := hT.2.2.1
  refine g_iload_n (by decide +kernel : decode prog_7_method_15_code 0 = .ok (.iload_n 1, 1)) rfl ?_
  refine g_aload_n (by decide +kernel : decode prog_7_method_15_code 1 = .ok (.aload_n 0, 1)) rfl ?_
  refine g_getI (by decide +kernel : decode prog_7_method_15_code 2 = .ok (.getfield 15, 3)) fl_Tp_15.get rfl rfl ?_
  refine g_top (w := nI t) (hT.1) ?_
  refine g_icmp_ltN (tgt := 10) (by decide +kernel : decode prog_7_method_15_code 5 = .ok (.if_icmp .lt 5, 3)) (by decide) (by omega) (by omega) (fun h5 => ?_) (fun h5 => ?_)
  · refine g_aload_n (by decide +kernel : decode prog_7_method_15_code 10 = .ok (.aload_n 0, 1)) rfl ?_
    refine g_getR (by decide +kernel : decode prog_7_method_15_code 11 = .ok (.getfield 9, 3)) fl_Tp_9 rfl rfl ?_
    refine g_iload_n (by decide +kernel : decode prog_7_method_15_code 14 = .ok (.iload_n 1, 1)) rfl ?_
    refine g_baload (a := i) (by decide +kernel : decode prog_7_method_15_code 15 = .ok (.baload, 1)) rfl rfl (by omega) (by decide) ?_
    refine g_top (w := sb (B i)) ((hT.2.2.2 _ (by omega)).2) ?_
    refine g_bipush (v := nI 97) (by decide +kernel : decode prog_7_method_15_code 16 = .ok (.bipush 97, 2)) (by decide) ?_
    refine g_icmp_lt (tgt := 34) (by decide +kernel : decode prog_7_method_15_code 18 = .ok (.if_icmp .lt 16, 3)) (by decide) (fun h18 => ?_) (fun h18 => ?_)
    · refine g_aload_n (by decide +kernel : decode prog_7_method_15_code 34 = .ok (.aload_n 0, 1)) rfl ?_
      refine g_getR (by decide +kernel : decode prog_7_method_15_code 35 = .ok (.getfield 9, 3)) fl_Tp_9 rfl rfl ?_
      refine g_iload_n (by decide +kernel : decode prog_7_method_15_code 38 = .ok (.iload_n 1, 1)) rfl ?_
      refine g_baload (a := i) (by decide +kernel : decode prog_7_method_15_code 39 = .ok (.baload, 1)) rfl rfl (by omega) (by decide) ?_
      refine g_top (w := sb (B i)) ((hT.2.2.2 _ (by omega)).2) ?_
      refine g_bipush (v := nI 48) (by decide +kernel : decode prog_7_method_15_code 40 = .ok (.bipush 48, 2)) (by decide) ?_
      refine g_icmp_lt (tgt := 58) (by decide +kernel : decode prog_7_method_15_code 42 = .ok (.if_icmp .lt 16, 3)) (by decide) (fun h42 => ?_) (fun h42 => ?_)
      · refine g_iconst (v := nI 3) (by decide +kernel : decode prog_7_method_15_code 58 = .ok (.iconst 3, 1)) (by decide) ?_
        exact g_iret hR (by decide +kernel : decode prog_7_method_15_code 59 = .ok (.ireturn, 1)) rfl ⟨_, rfl, ⟨by rw [kd_of h5, so_3 (hT.2.2.2 i h5).1 (by first | exact Or.inl h18 | exact Or.inr h29) (by first | exact Or.inl h42 | exact Or.inr h53)], rfl⟩⟩
      · refine g_aload_n (by decide +kernel : decode prog_7_method_15_code 45 = .ok (.aload_n 0, 1)) rfl ?_
        refine g_getR (by decide +kernel : decode prog_7_method_15_code 46 = .ok (.getfield 9, 3)) fl_Tp_9 rfl rfl ?_
        refine g_iload_n (by decide +kernel : decode prog_7_method_15_code 49 = .ok (.iload_n 1, 1)) rfl ?_
        refine g_baload (a := i) (by decide +kernel : decode prog_7_method_15_code 50 = .ok (.baload, 1)) rfl rfl (by omega) (by decide) ?_
        refine g_top (w := sb (B i)) ((hT.2.2.2 _ (by omega)).2) ?_
        refine g_bipush (v := nI 57) (by decide +kernel : decode prog_7_method_15_code 51 = .ok (.bipush 57, 2)) (by decide) ?_
        refine g_icmp_gt (tgt := 58) (by decide +kernel : decode prog_7_method_15_code 53 = .ok (.if_icmp .gt 5, 3)) (by decide) (fun h53 => ?_) (fun h53 => ?_)
        · refine g_iconst (v := nI 3) (by decide +kernel : decode prog_7_method_15_code 58 = .ok (.iconst 3, 1)) (by decide) ?_
          exact g_iret hR (by decide +kernel : decode prog_7_method_15_code 59 = .ok (.ireturn, 1)) rfl ⟨_, rfl, ⟨by rw [kd_of h5, so_3 (hT.2.2.2 i h5).1 (by first | exact Or.inl h18 | exact Or.inr h29) (by first | exact Or.inl h42 | exact Or.inr h53)], rfl⟩⟩
        · refine g_iconst (v := nI 2) (by decide +kernel : decode prog_7_method_15_code 56 = .ok (.iconst 2, 1)) (by decide) ?_
          exact g_iret hR (by decide +kernel : decode prog_7_method_15_code 57 = .ok (.ireturn, 1)) rfl ⟨_, rfl, ⟨by rw [kd_of h5, so_2 (hT.2.2.2 i h5).1 h42 h53], rfl⟩⟩
    · refine g_aload_n (by decide +kernel : decode prog_7_method_15_code 21 = .ok (.aload_n 0, 1)) rfl ?_
      refine g_getR (by decide +kernel : decode prog_7_method_15_code 22 = .ok (.getfield 9, 3)) fl_Tp_9 rfl rfl ?_
      refine g_iload_n (by decide +kernel : decode prog_7_method_15_code 25 = .ok (.iload_n 1, 1)) rfl ?_
      refine g_baload (a := i) (by decide +kernel : decode prog_7_method_15_code 26 = .ok (.baload, 1)) rfl rfl (by omega) (by decide) ?_
      refine g_top (w := sb (B i)) ((hT.2.2.2 _ (by omega)).2) ?_
      refine g_bipush (v := nI 122) (by decide +kernel : decode prog_7_method_15_code 27 = .ok (.bipush 122, 2)) (by decide) ?_
      refine g_icmp_gt (tgt := 34) (by decide +kernel : decode prog_7_method_15_code 29 = .ok (.if_icmp .gt 5, 3)) (by decide) (fun h29 => ?_) (fun h29 => ?_)
      · refine g_aload_n (by decide +kernel : decode prog_7_method_15_code 34 = .ok (.aload_n 0, 1)) rfl ?_
        refine g_getR (by decide +kernel : decode prog_7_method_15_code 35 = .ok (.getfield 9, 3)) fl_Tp_9 rfl rfl ?_
        refine g_iload_n (by decide +kernel : decode prog_7_method_15_code 38 = .ok (.iload_n 1, 1)) rfl ?_
        refine g_baload (a := i) (by decide +kernel : decode prog_7_method_15_code 39 = .ok (.baload, 1)) rfl rfl (by omega) (by decide) ?_
        refine g_top (w := sb (B i)) ((hT.2.2.2 _ (by omega)).2) ?_
        refine g_bipush (v := nI 48) (by decide +kernel : decode prog_7_method_15_code 40 = .ok (.bipush 48, 2)) (by decide) ?_
        refine g_icmp_lt (tgt := 58) (by decide +kernel : decode prog_7_method_15_code 42 = .ok (.if_icmp .lt 16, 3)) (by decide) (fun h42 => ?_) (fun h42 => ?_)
        · refine g_iconst (v := nI 3) (by decide +kernel : decode prog_7_method_15_code 58 = .ok (.iconst 3, 1)) (by decide) ?_
          exact g_iret hR (by decide +kernel : decode prog_7_method_15_code 59 = .ok (.ireturn, 1)) rfl ⟨_, rfl, ⟨by rw [kd_of h5, so_3 (hT.2.2.2 i h5).1 (by first | exact Or.inl h18 | exact Or.inr h29) (by first | exact Or.inl h42 | exact Or.inr h53)], rfl⟩⟩
        · refine g_aload_n (by decide +kernel : decode prog_7_method_15_code 45 = .ok (.aload_n 0, 1)) rfl ?_
          refine g_getR (by decide +kernel : decode prog_7_method_15_code 46 = .ok (.getfield 9, 3)) fl_Tp_9 rfl rfl ?_
          refine g_iload_n (by decide +kernel : decode prog_7_method_15_code 49 = .ok (.iload_n 1, 1)) rfl ?_
          refine g_baload (a := i) (by decide +kernel : decode prog_7_method_15_code 50 = .ok (.baload, 1)) rfl rfl (by omega) (by decide) ?_
          refine g_top (w := sb (B i)) ((hT.2.2.2 _ (by omega)).2) ?_
          refine g_bipush (v := nI 57) (by decide +kernel : decode prog_7_method_15_code 51 = .ok (.bipush 57, 2)) (by decide) ?_
          refine g_icmp_gt (tgt := 58) (by decide +kernel : decode prog_7_method_15_code 53 = .ok (.if_icmp .gt 5, 3)) (by decide) (fun h53 => ?_) (fun h53 => ?_)
          · refine g_iconst (v := nI 3) (by decide +kernel : decode prog_7_method_15_code 58 = .ok (.iconst 3, 1)) (by decide) ?_
            exact g_iret hR (by decide +kernel : decode prog_7_method_15_code 59 = .ok (.ireturn, 1)) rfl ⟨_, rfl, ⟨by rw [kd_of h5, so_3 (hT.2.2.2 i h5).1 (by first | exact Or.inl h18 | exact Or.inr h29) (by first | exact Or.inl h42 | exact Or.inr h53)], rfl⟩⟩
          · refine g_iconst (v := nI 2) (by decide +kernel : decode prog_7_method_15_code 56 = .ok (.iconst 2, 1)) (by decide) ?_
            exact g_iret hR (by decide +kernel : decode prog_7_method_15_code 57 = .ok (.ireturn, 1)) rfl ⟨_, rfl, ⟨by rw [kd_of h5, so_2 (hT.2.2.2 i h5).1 h42 h53], rfl⟩⟩
      · refine g_iconst (v := nI 1) (by decide +kernel : decode prog_7_method_15_code 32 = .ok (.iconst 1, 1)) (by decide) ?_
        exact g_iret hR (by decide +kernel : decode prog_7_method_15_code 33 = .ok (.ireturn, 1)) rfl ⟨_, rfl, ⟨by rw [kd_of h5, so_1 (hT.2.2.2 i h5).1 h18 h29], rfl⟩⟩
  · refine g_iconst (v := nI 0) (by decide +kernel : decode prog_7_method_15_code 8 = .ok (.iconst 0, 1)) (by decide) ?_
    exact g_iret hR (by decide +kernel : decode prog_7_method_15_code 9 = .ok (.ireturn, 1)) rfl ⟨_, rfl, ⟨by rw [kd_0.mpr h5], rfl⟩⟩
set_option maxRecDepth 20000 in
theorem a_sk {X : CX} {B : Nat → Nat} {t : Nat} {F : Int32} {q : Nat} (hK : ∀ σ, Tb B t σ F → σ 0 3 = nI q → G (ΛT, mt_Tp_advance, 1) X σ [some (.ref 0)] [] 46) : ∀ (b9 p : Nat) (σ : Store), Tb B t σ F → σ 0 3 = nI p → p ≤ t → t - p < b9 → sk B t p = q → G (ΛT, mt_Tp_advance, 1) X σ [some (.ref 0)] [] 8 := by
  intro b9
  induction b9 with
  | zero => intro p σ hT h3 hp hb hq; omega
  | succ b9 ih =>
  intro p σ hT h3 hp hb hq
  have ht2 := hT.2.2.1
  refine g_aload_n (by decide +kernel : decode prog_7_method_14_code 8 = .ok (.aload_n 0, 1)) rfl ?_
  refine g_getI (by decide +kernel : decode prog_7_method_14_code 9 = .ok (.getfield 104, 3)) fl_Tp_104.get rfl rfl ?_
  refine g_top (w := nI p) (h3) ?_
  refine g_aload_n (by decide +kernel : decode prog_7_method_14_code 12 = .ok (.aload_n 0, 1)) rfl ?_
  refine g_getI (by decide +kernel : decode prog_7_method_14_code 13 = .ok (.getfield 15, 3)) fl_Tp_15.get rfl rfl ?_
  refine g_top (w := nI t) (hT.1) ?_
  refine g_icmp_geN (tgt := 46) (by decide +kernel : decode prog_7_method_14_code 16 = .ok (.if_icmp .ge 30, 3)) (by decide) (by omega) (by omega) (fun h16 => ?_) (fun h16 => ?_)
  · have e9 : p = q := by rw [← hq]; exact (sk_e (by first | (intro z; omega) | exact fun z => h30 ((sb_eq (hT.2.2.2 p (by omega)).1 (by decide)).mpr z.2))).symm
    subst e9
    exact hK _ hT h3
  · refine g_aload_n (by decide +kernel : decode prog_7_method_14_code 19 = .ok (.aload_n 0, 1)) rfl ?_
    refine g_getR (by decide +kernel : decode prog_7_method_14_code 20 = .ok (.getfield 9, 3)) fl_Tp_9 rfl rfl ?_
    refine g_aload_n (by decide +kernel : decode prog_7_method_14_code 23 = .ok (.aload_n 0, 1)) rfl ?_
    refine g_getI (by decide +kernel : decode prog_7_method_14_code 24 = .ok (.getfield 104, 3)) fl_Tp_104.get rfl rfl ?_
    refine g_top (w := nI p) (h3) ?_
    refine g_baload (a := p) (by decide +kernel : decode prog_7_method_14_code 27 = .ok (.baload, 1)) rfl rfl (by omega) (by decide) ?_
    refine g_top (w := sb (B p)) ((hT.2.2.2 _ (by omega)).2) ?_
    refine g_bipush (v := nI 32) (by decide +kernel : decode prog_7_method_14_code 28 = .ok (.bipush 32, 2)) (by decide) ?_
    refine g_icmp_ne (tgt := 46) (by decide +kernel : decode prog_7_method_14_code 30 = .ok (.if_icmp .ne 16, 3)) (by decide) (fun h30 => ?_) (fun h30 => ?_)
    · have e9 : p = q := by rw [← hq]; exact (sk_e (by first | (intro z; omega) | exact fun z => h30 ((sb_eq (hT.2.2.2 p (by omega)).1 (by decide)).mpr z.2))).symm
      subst e9
      exact hK _ hT h3
    · refine g_aload_n (by decide +kernel : decode prog_7_method_14_code 33 = .ok (.aload_n 0, 1)) rfl ?_
      refine g_dup (by decide +kernel : decode prog_7_method_14_code 34 = .ok (.dup, 1)) rfl ?_
      refine g_getI (by decide +kernel : decode prog_7_method_14_code 35 = .ok (.getfield 104, 3)) fl_Tp_104.get rfl rfl ?_
      refine g_top (w := nI p) (h3) ?_
      refine g_iconst (v := nI 1) (by decide +kernel : decode prog_7_method_14_code 38 = .ok (.iconst 1, 1)) (by decide) ?_
      refine g_iaddN (by decide +kernel : decode prog_7_method_14_code 39 = .ok (.iadd, 1)) ?_
      refine g_putI (by decide +kernel : decode prog_7_method_14_code 40 = .ok (.putfield 104, 3)) fl_Tp_104 rfl rfl ?_
      refine g_goto (tgt := 8) (by decide +kernel : decode prog_7_method_14_code 43 = .ok (.goto (-35), 3)) (by decide) ?_
      exact ih (p + 1) _ hT rfl (by omega) (by omega) (by rw [← hq]; exact (sk_s (by omega) ((sb_eq (hT.2.2.2 p (by omega)).1 (by decide)).mp h30)).symm)
set_option maxRecDepth 20000 in
theorem a_ru {X : CX} {B : Nat → Nat} {t : Nat} {F : Int32} {q e s : Nat} (hs : kd B t q = s) (hs3 : s ≤ 3) (he : en B t q = e) (hq : q ≤ t) : ∀ (b9 p : Nat) (σ : Store), Tb B t σ F → σ 0 2 = nI s → σ 0 3 = nI q → σ 0 4 = nI p → p ≤ t → t - p < b9 → ru B t s p = e → Rt (ΛT, mt_Tp_advance, 1) (PV (fun σ' => Tk B t σ' q F)) X → G (ΛT, mt_Tp_advance, 1) X σ [some (.ref 0)] [] 93 := by
  intro b9
  induction b9 with
  | zero => intro p σ hT h2 h3 h4 hp hb hr hR; omega
  | succ b9 ih =>
  intro p σ hT h2 h3 h4 hp hb hr hR
  have ht2 := hT.2.2.1
  refine g_aload_n (by decide +kernel : decode prog_7_method_14_code 93 = .ok (.aload_n 0, 1)) rfl ?_
  refine g_getI (by decide +kernel : decode prog_7_method_14_code 94 = .ok (.getfield 22, 3)) fl_Tp_22.get rfl rfl ?_
  refine g_top (w := nI p) (h4) ?_
  refine g_aload_n (by decide +kernel : decode prog_7_method_14_code 97 = .ok (.aload_n 0, 1)) rfl ?_
  refine g_getI (by decide +kernel : decode prog_7_method_14_code 98 = .ok (.getfield 15, 3)) fl_Tp_15.get rfl rfl ?_
  refine g_top (w := nI t) (hT.1) ?_
  refine g_icmp_geN (tgt := 132) (by decide +kernel : decode prog_7_method_14_code 101 = .ok (.if_icmp .ge 31, 3)) (by decide) (by first | omega | (have h9 := kd_le B t p; omega)) (by first | omega | (have h9 := kd_le B t p; omega)) (fun h101 => ?_) (fun h101 => ?_)
  · have e9 : p = e := by rw [← hr]; exact (ru_e (by first | (intro z; omega) | exact fun z => h116 (by rw [kd_of z.1]; exact z.2))).symm
    exact g_vret hR (by decide +kernel : decode prog_7_method_14_code 132 = .ok (.return_, 1)) rfl ⟨rfl, hT, hq, by rw [h2, hs], h3, by rw [h4, he, e9]⟩
  · refine g_aload_n (by decide +kernel : decode prog_7_method_14_code 104 = .ok (.aload_n 0, 1)) rfl ?_
    refine g_aload_n (by decide +kernel : decode prog_7_method_14_code 105 = .ok (.aload_n 0, 1)) rfl ?_
    refine g_getI (by decide +kernel : decode prog_7_method_14_code 106 = .ok (.getfield 22, 3)) fl_Tp_22.get rfl rfl ?_
    refine g_top (w := nI p) (h4) ?_
    refine g_callVI [.int (nI p)] (by decide +kernel : decode prog_7_method_14_code 109 = .ok (.invokevirtual 117, 3)) lk_Tp_117 (s_sortAt (σ := σ) (B := B) (t := t) (F := F) hT (i := p) (by omega)) rfl rfl rfl rfl (Nat.le_of_ble_eq_true rfl) (Nat.le_of_ble_eq_true rfl) (fun r109 s109 h109 => ?_)
    obtain ⟨rfl, e109⟩ := h109
    have e109 := e109.symm; subst e109
    refine g_aload_n (by decide +kernel : decode prog_7_method_14_code 112 = .ok (.aload_n 0, 1)) rfl ?_
    refine g_getI (by decide +kernel : decode prog_7_method_14_code 113 = .ok (.getfield 28, 3)) fl_Tp_28.get rfl rfl ?_
    refine g_top (w := nI s) (h2) ?_
    refine g_icmp_neN (tgt := 132) (by decide +kernel : decode prog_7_method_14_code 116 = .ok (.if_icmp .ne 16, 3)) (by decide) (by first | omega | (have h9 := kd_le B t p; omega)) (by first | omega | (have h9 := kd_le B t p; omega)) (fun h116 => ?_) (fun h116 => ?_)
    · have e9 : p = e := by rw [← hr]; exact (ru_e (by first | (intro z; omega) | exact fun z => h116 (by rw [kd_of z.1]; exact z.2))).symm
      exact g_vret hR (by decide +kernel : decode prog_7_method_14_code 132 = .ok (.return_, 1)) rfl ⟨rfl, hT, hq, by rw [h2, hs], h3, by rw [h4, he, e9]⟩
    · refine g_aload_n (by decide +kernel : decode prog_7_method_14_code 119 = .ok (.aload_n 0, 1)) rfl ?_
      refine g_dup (by decide +kernel : decode prog_7_method_14_code 120 = .ok (.dup, 1)) rfl ?_
      refine g_getI (by decide +kernel : decode prog_7_method_14_code 121 = .ok (.getfield 22, 3)) fl_Tp_22.get rfl rfl ?_
      refine g_top (w := nI p) (h4) ?_
      refine g_iconst (v := nI 1) (by decide +kernel : decode prog_7_method_14_code 124 = .ok (.iconst 1, 1)) (by decide) ?_
      refine g_iaddN (by decide +kernel : decode prog_7_method_14_code 125 = .ok (.iadd, 1)) ?_
      refine g_putI (by decide +kernel : decode prog_7_method_14_code 126 = .ok (.putfield 22, 3)) fl_Tp_22 rfl rfl ?_
      refine g_goto (tgt := 93) (by decide +kernel : decode prog_7_method_14_code 129 = .ok (.goto (-36), 3)) (by decide) ?_
      exact ih (p + 1) _ hT h2 h3 rfl (by omega) (by omega) (by rw [← hr]; exact (ru_s (by omega) (by rw [← kd_of (t := t) (by omega)]; exact h116)).symm) hR
set_option maxRecDepth 20000 in
theorem a_46 {X : CX} {σ : Store} {B : Nat → Nat} {t : Nat} {F : Int32} {q : Nat} (hT : Tb B t σ F) (h3 : σ 0 3 = nI q) (hq : q ≤ t) (hR : Rt (ΛT, mt_Tp_advance, 1) (PV (fun σ' => Tk B t σ' q F)) X) : G (ΛT, mt_Tp_advance, 1) X σ [some (.ref 0)] [] 46 := by
  have ht2 := hT.2.2.1
  have hk3 := kd_le B t q
  refine g_aload_n (by decide +kernel : decode prog_7_method_14_code 46 = .ok (.aload_n 0, 1)) rfl ?_
  refine g_aload_n (by decide +kernel : decode prog_7_method_14_code 47 = .ok (.aload_n 0, 1)) rfl ?_
  refine g_getI (by decide +kernel : decode prog_7_method_14_code 48 = .ok (.getfield 104, 3)) fl_Tp_104.get rfl rfl ?_
  refine g_top (w := nI q) (h3) ?_
  refine g_putI (by decide +kernel : decode prog_7_method_14_code 51 = .ok (.putfield 22, 3)) fl_Tp_22 rfl rfl ?_
  refine g_aload_n (by decide +kernel : decode prog_7_method_14_code 54 = .ok (.aload_n 0, 1)) rfl ?_
  refine g_aload_n (by decide +kernel : decode prog_7_method_14_code 55 = .ok (.aload_n 0, 1)) rfl ?_
  refine g_aload_n (by decide +kernel : decode prog_7_method_14_code 56 = .ok (.aload_n 0, 1)) rfl ?_
  refine g_getI (by decide +kernel : decode prog_7_method_14_code 57 = .ok (.getfield 104, 3)) fl_Tp_104.get rfl rfl ?_
  refine g_top (w := nI q) (h3) ?_
  refine g_callVI [.int (nI q)] (by decide +kernel : decode prog_7_method_14_code 60 = .ok (.invokevirtual 117, 3)) lk_Tp_117 (s_sortAt (σ := s_up σ 0 4 (nI q)) (B := B) (t := t) (F := F) hT (i := q) (by omega)) rfl rfl rfl rfl (Nat.le_of_ble_eq_true rfl) (Nat.le_of_ble_eq_true rfl) (fun r60 s60 h60 => ?_)
  obtain ⟨rfl, e60⟩ := h60
  have e60 := e60.symm; subst e60
  refine g_putI (by decide +kernel : decode prog_7_method_14_code 63 = .ok (.putfield 28, 3)) fl_Tp_28 rfl rfl ?_
  refine g_aload_n (by decide +kernel : decode prog_7_method_14_code 66 = .ok (.aload_n 0, 1)) rfl ?_
  refine g_getI (by decide +kernel : decode prog_7_method_14_code 67 = .ok (.getfield 28, 3)) fl_Tp_28.get rfl rfl ?_
  refine g_top (w := nI (kd B t q)) (rfl) ?_
  refine g_if_neN (tgt := 74) (by decide +kernel : decode prog_7_method_14_code 70 = .ok (.ifCond .ne 4, 3)) (by decide) (by omega) (fun h70 => ?_) (fun h70 => ?_)
  · refine g_aload_n (by decide +kernel : decode prog_7_method_14_code 74 = .ok (.aload_n 0, 1)) rfl ?_
    refine g_dup (by decide +kernel : decode prog_7_method_14_code 75 = .ok (.dup, 1)) rfl ?_
    refine g_getI (by decide +kernel : decode prog_7_method_14_code 76 = .ok (.getfield 22, 3)) fl_Tp_22.get rfl rfl ?_
    refine g_top (w := nI q) (rfl) ?_
    refine g_iconst (v := nI 1) (by decide +kernel : decode prog_7_method_14_code 79 = .ok (.iconst 1, 1)) (by decide) ?_
    refine g_iaddN (by decide +kernel : decode prog_7_method_14_code 80 = .ok (.iadd, 1)) ?_
    refine g_putI (by decide +kernel : decode prog_7_method_14_code 81 = .ok (.putfield 22, 3)) fl_Tp_22 rfl rfl ?_
    refine g_aload_n (by decide +kernel : decode prog_7_method_14_code 84 = .ok (.aload_n 0, 1)) rfl ?_
    refine g_getI (by decide +kernel : decode prog_7_method_14_code 85 = .ok (.getfield 28, 3)) fl_Tp_28.get rfl rfl ?_
    refine g_top (w := nI (kd B t q)) (rfl) ?_
    refine g_iconst (v := nI 3) (by decide +kernel : decode prog_7_method_14_code 88 = .ok (.iconst 3, 1)) (by decide) ?_
    refine g_icmp_neN (tgt := 93) (by decide +kernel : decode prog_7_method_14_code 89 = .ok (.if_icmp .ne 4, 3)) (by decide) (by omega) (by decide) (fun h89 => ?_) (fun h89 => ?_)
    · have hlt := kd_lt h70
      have e9 := ru_s (B := B) (t := t) (s := kd B t q) hlt (kd_of hlt).symm
      exact a_ru rfl hk3 (show en B t q = ru B t (kd B t q) q by unfold en; rw [if_neg h70, if_neg h89]) hq (t + 1) (q + 1) _ hT rfl h3 rfl (by omega) (by omega) e9.symm hR
    · exact g_vret hR (by decide +kernel : decode prog_7_method_14_code 92 = .ok (.return_, 1)) rfl ⟨rfl, hT, hq, rfl, h3, by show _ = nI (en B t q); unfold en; rw [if_neg h70, if_pos h89]; rfl⟩
  · exact g_vret hR (by decide +kernel : decode prog_7_method_14_code 73 = .ok (.return_, 1)) rfl ⟨rfl, hT, hq, rfl, h3, by show _ = nI (en B t q); unfold en; rw [if_pos h70]; rfl⟩
set_option maxRecDepth 20000 in
theorem s_adv0 {σ : Store} {B : Nat → Nat} {t : Nat} {F : Int32} (hT : Tb B t σ F) {p : Nat} (h4 : σ 0 4 = nI p) (hp : p ≤ t) : Ct ΛT mt_Tp_advance 1 [.ref 0] σ (PV (fun σ' => Tk B t σ' (sk B t p) F)) := by
  refine Ct.of (by decide) (Nat.le_of_ble_eq_true rfl) (fun X hR => ?_)
  show G (ΛT, mt_Tp_advance, 1) X σ [some (.ref 0)] [] 0
  refine g_aload_n (by decide +kernel : decode prog_7_method_14_code 0 = .ok (.aload_n 0, 1)) rfl ?_
  refine g_aload_n (by decide +kernel : decode prog_7_method_14_code 1 = .ok (.aload_n 0, 1)) rfl ?_
  refine g_getI (by decide +kernel : decode prog_7_method_14_code 2 = .ok (.getfield 22, 3)) fl_Tp_22.get rfl rfl ?_
  refine g_top (w := nI p) (h4) ?_
  refine g_putI (by decide +kernel : decode prog_7_method_14_code 5 = .ok (.putfield 104, 3)) fl_Tp_104 rfl rfl ?_
  exact a_sk (fun σ1 a b => a_46 a b (sk_b hp).2 hR) (t + 1) p _ hT rfl hp (by omega) rfl
theorem s_adv {σ : Store} {B : Nat → Nat} {t : Nat} {F : Int32} {q : Nat} (hk : Tk B t σ q F) : Ct ΛT mt_Tp_advance 1 [.ref 0] σ (PV (fun σ' => Tk B t σ' (nx B t q) F)) := s_adv0 hk.1 hk.2.2.2.2 (en_b hk.2.1).2.1
set_option maxRecDepth 20000 in
theorem s_fail {σ : Store} {B : Nat → Nat} {t : Nat} {F : Int32} {q : Nat} (hk : Tk B t σ q F) : Ct ΛT mt_Tp_fail 0 [.ref 0] σ (PV (fun σ' => Tk B t σ' q (fl F q))) := by
  refine Ct.of (by decide) (Nat.le_of_ble_eq_true rfl) (fun X hR => ?_)
  show G (ΛT, mt_Tp_fail, 0) X σ [some (.ref 0)] [] 0
  refine g_aload_n (by decide +kernel : decode prog_7_method_12_code 0 = .ok (.aload_n 0, 1)) rfl ?_
  refine g_getI (by decide +kernel : decode prog_7_method_12_code 1 = .ok (.getfield 19, 3)) fl_Tp_19.get rfl rfl ?_
  refine g_top (w := F) (hk.1.2.1) ?_
  refine g_iconst (v := (-1)) (by decide +kernel : decode prog_7_method_12_code 4 = .ok (.iconst (-1), 1)) (by decide) ?_
  refine g_icmp_ne (tgt := 16) (by decide +kernel : decode prog_7_method_12_code 5 = .ok (.if_icmp .ne 11, 3)) (by decide) (fun h5 => ?_) (fun h5 => ?_)
  · exact g_vret hR (by decide +kernel : decode prog_7_method_12_code 16 = .ok (.return_, 1)) rfl ⟨rfl, by unfold fl; rw [if_neg h5]; exact hk⟩
  · refine g_aload_n (by decide +kernel : decode prog_7_method_12_code 8 = .ok (.aload_n 0, 1)) rfl ?_
    refine g_aload_n (by decide +kernel : decode prog_7_method_12_code 9 = .ok (.aload_n 0, 1)) rfl ?_
    refine g_getI (by decide +kernel : decode prog_7_method_12_code 10 = .ok (.getfield 104, 3)) fl_Tp_104.get rfl rfl ?_
    refine g_top (w := nI q) (hk.2.2.2.1) ?_
    refine g_putI (by decide +kernel : decode prog_7_method_12_code 13 = .ok (.putfield 19, 3)) fl_Tp_19 rfl rfl ?_
    exact g_vret hR (by decide +kernel : decode prog_7_method_12_code 16 = .ok (.return_, 1)) rfl ⟨rfl, ⟨hk.1.1, by unfold fl; rw [if_pos h5]; rfl, hk.1.2.2⟩, hk.2⟩
set_option maxRecDepth 20000 in
theorem n_lp {X : CX} {σ : Store} {B : Nat → Nat} {t : Nat} {F : Int32} {q i : Nat} (hk : Tk B t σ q F) (hi : i < 16) (hF : F = -1) (h1 : kd B t q = 1) (hl : en B t q = q + (Wi i).length) : ∀ (b9 p : Nat), q ≤ p → p ≤ en B t q → en B t q - p < b9 → (∀ j, q + j < p → B (q + j) = (Wi i).getD j 0) → Rt (ΛT, mt_Tp_isNext, 5) (PB σ (F = -1 ∧ nm B t q (Wi i))) X → G (ΛT, mt_Tp_isNext, 5) X σ [some (.ref 0), some (.ref (1000 + i)), some (.int (nI p))] [] 39 := by
  intro b9
  induction b9 with
  | zero => intro p hp1 hp2 hb hj hR; omega
  | succ b9 ih =>
  intro p hp1 hp2 hb hj hR
  have hq := hk.2.1
  have ht2 := hk.1.2.2.1
  have hen := en_b (B := B) hq
  have hk3 := kd_le B t q
  have hsl : strL.getD i 0 = (Wi i).length := str_len ⟨i, hi⟩
  refine g_iload_n (by decide +kernel : decode prog_7_method_13_code 39 = .ok (.iload_n 2, 1)) rfl ?_
  refine g_aload_n (by decide +kernel : decode prog_7_method_13_code 40 = .ok (.aload_n 0, 1)) rfl ?_
  refine g_getI (by decide +kernel : decode prog_7_method_13_code 41 = .ok (.getfield 22, 3)) fl_Tp_22.get rfl rfl ?_
  refine g_top (w := nI (en B t q)) (hk.2.2.2.2) ?_
  refine g_icmp_geN (tgt := 74) (by decide +kernel : decode prog_7_method_13_code 44 = .ok (.if_icmp .ge 30, 3)) (by decide) (by omega) (by omega) (fun h44 => ?_) (fun h44 => ?_)
  · refine g_iconst (v := nI 1) (by decide +kernel : decode prog_7_method_13_code 74 = .ok (.iconst 1, 1)) (by decide) ?_
    exact g_zret hR (by decide +kernel : decode prog_7_method_13_code 75 = .ok (.ireturn, 1)) rfl (by decide) ⟨_, rfl, rfl, Or.inl ⟨rfl, hF, h1, hl, fun j hj2 => hj j (by omega)⟩⟩
  · refine g_aload_n (by decide +kernel : decode prog_7_method_13_code 47 = .ok (.aload_n 0, 1)) rfl ?_
    refine g_getR (by decide +kernel : decode prog_7_method_13_code 48 = .ok (.getfield 9, 3)) fl_Tp_9 rfl rfl ?_
    refine g_iload_n (by decide +kernel : decode prog_7_method_13_code 51 = .ok (.iload_n 2, 1)) rfl ?_
    refine g_baload (a := p) (by decide +kernel : decode prog_7_method_13_code 52 = .ok (.baload, 1)) rfl rfl (by omega) (by decide) ?_
    refine g_top (w := sb (B p)) ((hk.1.2.2.2 _ (by omega)).2) ?_
    refine g_aload_n (by decide +kernel : decode prog_7_method_13_code 53 = .ok (.aload_n 1, 1)) rfl ?_
    refine g_iload_n (by decide +kernel : decode prog_7_method_13_code 54 = .ok (.iload_n 2, 1)) rfl ?_
    refine g_aload_n (by decide +kernel : decode prog_7_method_13_code 55 = .ok (.aload_n 0, 1)) rfl ?_
    refine g_getI (by decide +kernel : decode prog_7_method_13_code 56 = .ok (.getfield 104, 3)) fl_Tp_104.get rfl rfl ?_
    refine g_top (w := nI q) (hk.2.2.2.1) ?_
    refine g_isubN (by decide +kernel : decode prog_7_method_13_code 59 = .ok (.isub, 1)) (by omega) ?_
    refine g_callT (i9 := i) [.int (nI (p - q))] (by decide +kernel : decode prog_7_method_13_code 60 = .ok (.invokevirtual 113, 3)) lk_Tp_113 rfl hi (t_charAt ΛT σ (i := i) (a := p - q) hi (by omega)) rfl rfl (Nat.le_of_ble_eq_true rfl) (Nat.le_of_ble_eq_true rfl) (fun r60 s60 h60 => ?_)
    obtain ⟨rfl, e60⟩ := h60
    have e60 := e60.symm; subst e60
    refine g_icmp_eq (tgt := 68) (by decide +kernel : decode prog_7_method_13_code 63 = .ok (.if_icmp .eq 5, 3)) (by decide) (fun h63 => ?_) (fun h63 => ?_)
    · refine g_iincN (n := 1) (L' := [some (.ref 0), some (.ref (1000 + i)), some (.int (nI (p + 1)))]) (by decide +kernel : decode prog_7_method_13_code 68 = .ok (.iinc 2 1, 3)) rfl (by decide) (Nat.le_of_ble_eq_true rfl) rfl ?_
      refine g_goto (tgt := 39) (by decide +kernel : decode prog_7_method_13_code 71 = .ok (.goto (-32), 3)) (by decide) ?_
      exact ih (p + 1) (by omega) (by omega) (by omega) (fun j hj2 => by by_cases e : q + j < p; exact hj j e; (have e2 : p = q + j := by omega); subst e2; rw [show q + j - q = j by omega] at h63; exact (sb_eq (hk.1.2.2.2 _ (by omega)).1 (str_c hi (by omega)).2).mp h63) hR
    · refine g_iconst (v := nI 0) (by decide +kernel : decode prog_7_method_13_code 66 = .ok (.iconst 0, 1)) (by decide) ?_
      exact g_zret hR (by decide +kernel : decode prog_7_method_13_code 67 = .ok (.ireturn, 1)) rfl (by decide) ⟨_, rfl, rfl, Or.inr ⟨rfl, fun z => h63 ((sb_eq (hk.1.2.2.2 p (by omega)).1 (str_c hi (by omega)).2).mpr (by have := z.2.2.2 (p - q) (by omega); rw [show q + (p - q) = p by omega] at this; exact this))⟩⟩
set_option maxRecDepth 20000 in
theorem s_isNext {σ : Store} {B : Nat → Nat} {t : Nat} {F : Int32} {q : Nat} (hk : Tk B t σ q F) {i : Nat} (hi : i < 16) : Ct ΛT mt_Tp_isNext 5 [.ref 0, .ref (1000 + i)] σ (PB σ (F = -1 ∧ nm B t q (Wi i))) := by
  refine Ct.of (by decide) (Nat.le_of_ble_eq_true rfl) (fun X hR => ?_)
  show G (ΛT, mt_Tp_isNext, 5) X σ [some (.ref 0), some (.ref (1000 + i)), none] [] 0
  have hq := hk.2.1
  have ht2 := hk.1.2.2.1
  have hen := en_b (B := B) hq
  have hk3 := kd_le B t q
  have hsl : strL.getD i 0 = (Wi i).length := str_len ⟨i, hi⟩
  have hs8 : strL.getD i 0 ≤ 8 := str_le ⟨i, hi⟩
  refine g_aload_n (by decide +kernel : decode prog_7_method_13_code 0 = .ok (.aload_n 0, 1)) rfl ?_
  refine g_getI (by decide +kernel : decode prog_7_method_13_code 1 = .ok (.getfield 19, 3)) fl_Tp_19.get rfl rfl ?_
  refine g_top (w := F) (hk.1.2.1) ?_
  refine g_iconst (v := (-1)) (by decide +kernel : decode prog_7_method_13_code 4 = .ok (.iconst (-1), 1)) (by decide) ?_
  refine g_icmp_ne (tgt := 32) (by decide +kernel : decode prog_7_method_13_code 5 = .ok (.if_icmp .ne 27, 3)) (by decide) (fun h5 => ?_) (fun h5 => ?_)
  · refine g_iconst (v := nI 0) (by decide +kernel : decode prog_7_method_13_code 32 = .ok (.iconst 0, 1)) (by decide) ?_
    exact g_zret hR (by decide +kernel : decode prog_7_method_13_code 33 = .ok (.ireturn, 1)) rfl (by decide) ⟨_, rfl, ⟨rfl, Or.inr ⟨rfl, fun z => h5 z.1⟩⟩⟩
  · refine g_aload_n (by decide +kernel : decode prog_7_method_13_code 8 = .ok (.aload_n 0, 1)) rfl ?_
    refine g_getI (by decide +kernel : decode prog_7_method_13_code 9 = .ok (.getfield 28, 3)) fl_Tp_28.get rfl rfl ?_
    refine g_top (w := nI (kd B t q)) (hk.2.2.1) ?_
    refine g_iconst (v := nI 1) (by decide +kernel : decode prog_7_method_13_code 12 = .ok (.iconst 1, 1)) (by decide) ?_
    refine g_icmp_neN (tgt := 32) (by decide +kernel : decode prog_7_method_13_code 13 = .ok (.if_icmp .ne 19, 3)) (by decide) (by omega) (by decide) (fun h13 => ?_) (fun h13 => ?_)
    · refine g_iconst (v := nI 0) (by decide +kernel : decode prog_7_method_13_code 32 = .ok (.iconst 0, 1)) (by decide) ?_
      exact g_zret hR (by decide +kernel : decode prog_7_method_13_code 33 = .ok (.ireturn, 1)) rfl (by decide) ⟨_, rfl, ⟨rfl, Or.inr ⟨rfl, fun z => h13 z.2.1⟩⟩⟩
    · refine g_aload_n (by decide +kernel : decode prog_7_method_13_code 16 = .ok (.aload_n 0, 1)) rfl ?_
      refine g_getI (by decide +kernel : decode prog_7_method_13_code 17 = .ok (.getfield 22, 3)) fl_Tp_22.get rfl rfl ?_
      refine g_top (w := nI (en B t q)) (hk.2.2.2.2) ?_
      refine g_aload_n (by decide +kernel : decode prog_7_method_13_code 20 = .ok (.aload_n 0, 1)) rfl ?_
      refine g_getI (by decide +kernel : decode prog_7_method_13_code 21 = .ok (.getfield 104, 3)) fl_Tp_104.get rfl rfl ?_
      refine g_top (w := nI q) (hk.2.2.2.1) ?_
      refine g_isubN (by decide +kernel : decode prog_7_method_13_code 24 = .ok (.isub, 1)) (by omega) ?_
      refine g_aload_n (by decide +kernel : decode prog_7_method_13_code 25 = .ok (.aload_n 1, 1)) rfl ?_
      refine g_callT (i9 := i) [] (by decide +kernel : decode prog_7_method_13_code 26 = .ok (.invokevirtual 107, 3)) lk_Tp_107 rfl hi (t_length ΛT σ hi) rfl rfl (Nat.le_of_ble_eq_true rfl) (Nat.le_of_ble_eq_true rfl) (fun r26 s26 h26 => ?_)
      obtain ⟨rfl, e26⟩ := h26
      have e26 := e26.symm; subst e26
      refine g_icmp_eqN (tgt := 34) (by decide +kernel : decode prog_7_method_13_code 29 = .ok (.if_icmp .eq 5, 3)) (by decide) (by omega) (by omega) (fun h29 => ?_) (fun h29 => ?_)
      · refine g_aload_n (by decide +kernel : decode prog_7_method_13_code 34 = .ok (.aload_n 0, 1)) rfl ?_
        refine g_getI (by decide +kernel : decode prog_7_method_13_code 35 = .ok (.getfield 104, 3)) fl_Tp_104.get rfl rfl ?_
        refine g_top (w := nI q) (hk.2.2.2.1) ?_
        refine g_istore_n (L' := [some (.ref 0), some (.ref (1000 + i)), some (.int (nI q))]) (by decide +kernel : decode prog_7_method_13_code 38 = .ok (.istore_n 2, 1)) (Nat.le_of_ble_eq_true rfl) rfl ?_
        exact n_lp hk hi h5 h13 (by omega) (t + 1) q (by omega) (by omega) (by omega) (fun j hj => by omega) hR
      · refine g_iconst (v := nI 0) (by decide +kernel : decode prog_7_method_13_code 32 = .ok (.iconst 0, 1)) (by decide) ?_
        exact g_zret hR (by decide +kernel : decode prog_7_method_13_code 33 = .ok (.ireturn, 1)) rfl (by decide) ⟨_, rfl, ⟨rfl, Or.inr ⟨rfl, fun z => h29 (by have := z.2.2.1; omega)⟩⟩⟩
set_option maxRecDepth 20000 in
theorem s_takeName {σ : Store} {B : Nat → Nat} {t : Nat} {F : Int32} {q : Nat} (hk : Tk B t σ q F) {i : Nat} (hi : i < 16) : Ct ΛT mt_Tp_takeName 6 [.ref 0, .ref (1000 + i)] σ (PV (fun σ' => (F = -1 ∧ nm B t q (Wi i) ∧ Tk B t σ' (nx B t q) F) ∨ (¬ (F = -1 ∧ nm B t q (Wi i)) ∧ Tk B t σ' q (fl F q)))) := by
  refine Ct.of (by decide) (Nat.le_of_ble_eq_true rfl) (fun X hR => ?_)
  show G (ΛT, mt_Tp_takeName, 6) X σ [some (.ref 0), some (.ref (1000 + i))] [] 0
  refine g_aload_n (by decide +kernel : decode prog_7_method_8_code 0 = .ok (.aload_n 0, 1)) rfl ?_
  refine g_aload_n (by decide +kernel : decode prog_7_method_8_code 1 = .ok (.aload_n 1, 1)) rfl ?_
  refine g_callVI [.ref (1000 + i)] (by decide +kernel : decode prog_7_method_8_code 2 = .ok (.invokevirtual 39, 3)) lk_Tp_39 (s_isNext hk (i := i) hi) rfl rfl rfl rfl (Nat.le_of_ble_eq_true rfl) (Nat.le_of_ble_eq_true rfl) (fun r2 s2 h2 => ?_)
  rcases h2 with ⟨e2, ⟨rfl, q2⟩ | ⟨rfl, q2⟩⟩
  · have e2 := e2.symm; subst e2
    refine g_if_eqN (tgt := 15) (by decide +kernel : decode prog_7_method_8_code 5 = .ok (.ifCond .eq 10, 3)) (by decide) (by decide) (fun h => False.elim (by revert h; decide)) (fun _ => ?_)
    refine g_aload_n (by decide +kernel : decode prog_7_method_8_code 8 = .ok (.aload_n 0, 1)) rfl ?_
    refine g_callVV [] (by decide +kernel : decode prog_7_method_8_code 9 = .ok (.invokevirtual 25, 3)) lk_Tp_25 (s_adv hk) rfl rfl rfl rfl (Nat.le_of_ble_eq_true rfl) (Nat.le_of_ble_eq_true rfl) (fun s9 h9 => ?_)
    have k9 := h9
    refine g_goto (tgt := 19) (by decide +kernel : decode prog_7_method_8_code 12 = .ok (.goto 7, 3)) (by decide) ?_
    exact g_vret hR (by decide +kernel : decode prog_7_method_8_code 19 = .ok (.return_, 1)) rfl ⟨rfl, Or.inl ⟨q2.1, q2.2, k9⟩⟩
  · have e2 := e2.symm; subst e2
    refine g_if_eqN (tgt := 15) (by decide +kernel : decode prog_7_method_8_code 5 = .ok (.ifCond .eq 10, 3)) (by decide) (by decide) (fun _ => ?_) (fun h => False.elim (by revert h; decide))
    refine g_aload_n (by decide +kernel : decode prog_7_method_8_code 15 = .ok (.aload_n 0, 1)) rfl ?_
    refine g_callVV [] (by decide +kernel : decode prog_7_method_8_code 16 = .ok (.invokevirtual 61, 3)) lk_Tp_61 (s_fail hk) rfl rfl rfl rfl (Nat.le_of_ble_eq_true rfl) (Nat.le_of_ble_eq_true rfl) (fun s16 h16 => ?_)
    have k16 := h16
    exact g_vret hR (by decide +kernel : decode prog_7_method_8_code 19 = .ok (.return_, 1)) rfl ⟨rfl, Or.inr ⟨q2, k16⟩⟩
set_option maxRecDepth 20000 in
theorem s_takeSemicolon {σ : Store} {B : Nat → Nat} {t : Nat} {F : Int32} {q : Nat} (hk : Tk B t σ q F) : Ct ΛT mt_Tp_takeSemicolon 2 [.ref 0] σ (PV (fun σ' => (isC B t q ∧ Tk B t σ' (nx B t q) F) ∨ (¬ isC B t q ∧ Tk B t σ' q (fl F q)))) := by
  refine Ct.of (by decide) (Nat.le_of_ble_eq_true rfl) (fun X hR => ?_)
  show G (ΛT, mt_Tp_takeSemicolon, 2) X σ [some (.ref 0)] [] 0
  have hq := hk.2.1
  have ht2 := hk.1.2.2.1
  have hen := en_b (B := B) hq
  have hk3 := kd_le B t q
  refine g_aload_n (by decide +kernel : decode prog_7_method_11_code 0 = .ok (.aload_n 0, 1)) rfl ?_
  refine g_getI (by decide +kernel : decode prog_7_method_11_code 1 = .ok (.getfield 28, 3)) fl_Tp_28.get rfl rfl ?_
  refine g_top (w := nI (kd B t q)) (hk.2.2.1) ?_
  refine g_iconst (v := nI 3) (by decide +kernel : decode prog_7_method_11_code 4 = .ok (.iconst 3, 1)) (by decide) ?_
  refine g_icmp_neN (tgt := 29) (by decide +kernel : decode prog_7_method_11_code 5 = .ok (.if_icmp .ne 24, 3)) (by decide) (by omega) (by decide) (fun h5 => ?_) (fun h5 => ?_)
  · refine g_aload_n (by decide +kernel : decode prog_7_method_11_code 29 = .ok (.aload_n 0, 1)) rfl ?_
    refine g_callVV [] (by decide +kernel : decode prog_7_method_11_code 30 = .ok (.invokevirtual 61, 3)) lk_Tp_61 (s_fail hk) rfl rfl rfl rfl (Nat.le_of_ble_eq_true rfl) (Nat.le_of_ble_eq_true rfl) (fun s30 h30 => ?_)
    have k30 := h30
    exact g_vret hR (by decide +kernel : decode prog_7_method_11_code 33 = .ok (.return_, 1)) rfl ⟨rfl, Or.inr ⟨fun z => h5 z.1, k30⟩⟩
  · refine g_aload_n (by decide +kernel : decode prog_7_method_11_code 8 = .ok (.aload_n 0, 1)) rfl ?_
    refine g_getR (by decide +kernel : decode prog_7_method_11_code 9 = .ok (.getfield 9, 3)) fl_Tp_9 rfl rfl ?_
    refine g_aload_n (by decide +kernel : decode prog_7_method_11_code 12 = .ok (.aload_n 0, 1)) rfl ?_
    refine g_getI (by decide +kernel : decode prog_7_method_11_code 13 = .ok (.getfield 104, 3)) fl_Tp_104.get rfl rfl ?_
    refine g_top (w := nI q) (hk.2.2.2.1) ?_
    refine g_baload (a := q) (by decide +kernel : decode prog_7_method_11_code 16 = .ok (.baload, 1)) rfl rfl (by have := kd_lt (B := B) (t := t) (q := q) (by omega); omega) (by decide) ?_
    refine g_top (w := sb (B q)) ((hk.1.2.2.2 _ (kd_lt (B := B) (t := t) (q := q) (by omega))).2) ?_
    refine g_bipush (v := nI 59) (by decide +kernel : decode prog_7_method_11_code 17 = .ok (.bipush 59, 2)) (by decide) ?_
    refine g_icmp_ne (tgt := 29) (by decide +kernel : decode prog_7_method_11_code 19 = .ok (.if_icmp .ne 10, 3)) (by decide) (fun h19 => ?_) (fun h19 => ?_)
    · refine g_aload_n (by decide +kernel : decode prog_7_method_11_code 29 = .ok (.aload_n 0, 1)) rfl ?_
      refine g_callVV [] (by decide +kernel : decode prog_7_method_11_code 30 = .ok (.invokevirtual 61, 3)) lk_Tp_61 (s_fail hk) rfl rfl rfl rfl (Nat.le_of_ble_eq_true rfl) (Nat.le_of_ble_eq_true rfl) (fun s30 h30 => ?_)
      have k30 := h30
      exact g_vret hR (by decide +kernel : decode prog_7_method_11_code 33 = .ok (.return_, 1)) rfl ⟨rfl, Or.inr ⟨fun z => h19 ((sb_eq (hk.1.2.2.2 q (kd_lt (B := B) (t := t) (q := q) (by omega))).1 (by decide)).mpr z.2), k30⟩⟩
    · refine g_aload_n (by decide +kernel : decode prog_7_method_11_code 22 = .ok (.aload_n 0, 1)) rfl ?_
      refine g_callVV [] (by decide +kernel : decode prog_7_method_11_code 23 = .ok (.invokevirtual 25, 3)) lk_Tp_25 (s_adv hk) rfl rfl rfl rfl (Nat.le_of_ble_eq_true rfl) (Nat.le_of_ble_eq_true rfl) (fun s23 h23 => ?_)
      have k23 := h23
      refine g_goto (tgt := 33) (by decide +kernel : decode prog_7_method_11_code 26 = .ok (.goto 7, 3)) (by decide) ?_
      exact g_vret hR (by decide +kernel : decode prog_7_method_11_code 33 = .ok (.return_, 1)) rfl ⟨rfl, Or.inl ⟨⟨h5, (sb_eq (hk.1.2.2.2 q (kd_lt (B := B) (t := t) (q := q) (by omega))).1 (by decide)).mp h19⟩, k23⟩⟩
theorem ruF_all {B : Nat → Nat} {t s : Nat} : ∀ k p i, p ≤ i → i < ruF B t s k p → i < t ∧ cl (B i) = s := by
  intro k
  induction k with
  | zero => intro p i h1 h2; have : i < p := h2; omega
  | succ k ih =>
    intro p i h1 h2
    unfold ruF at h2
    split at h2
    · rename_i h
      by_cases e : i = p
      · subst e; exact h
      · exact ih (p + 1) i (by omega) h2
    · omega
theorem ruF_end {B : Nat → Nat} {t s : Nat} : ∀ k p, t ≤ p + k → ¬ (ruF B t s k p < t ∧ cl (B (ruF B t s k p)) = s) := by
  intro k
  induction k with
  | zero => intro p h z; have : p < t := z.1; omega
  | succ k ih =>
    intro p h
    unfold ruF
    split
    · exact ih (p + 1) (by omega)
    · rename_i h2; exact h2
theorem en_2 {B : Nat → Nat} {t q : Nat} (h : kd B t q = 2) : en B t q = ru B t 2 q := by unfold en; rw [h]; rfl
theorem dig {B : Nat → Nat} {t q : Nat} (h : kd B t q = 2) {p : Nat} (h1 : q ≤ p) (h2 : p < en B t q) : p < t ∧ cl (B p) = 2 := by
  rw [en_2 h] at h2
  exact ruF_all _ _ _ h1 h2
theorem dig_e {B : Nat → Nat} {t q : Nat} (h : kd B t q = 2) (hq : q ≤ t) : ¬ (en B t q < t ∧ cl (B (en B t q)) = 2) := by
  rw [en_2 h]
  exact ruF_end _ _ (by omega)
set_option maxRecDepth 20000 in
theorem u_lp {X : CX} {σ : Store} {B : Nat → Nat} {t : Nat} {F : Int32} {q m : Nat} (hk : Tk B t σ q F) (h2 : kd B t q = 2) (h3 : en B t q ≤ q + 3) (hK : G (ΛT, mt_Tp_takeNumber, 2) X σ [some (.ref 0), some (.int (nI m)), some (.int (nI (vl B t q))), none] [] 63) : ∀ (b9 p v : Nat), q ≤ p → p ≤ en B t q → en B t q - p < b9 → vlF B t (t - p) p v = vl B t q → v ≤ 999 → (p ≤ q + 2 → v ≤ 99) → (p ≤ q + 1 → v ≤ 9) → (p ≤ q → v = 0) → G (ΛT, mt_Tp_takeNumber, 2) X σ [some (.ref 0), some (.int (nI m)), some (.int (nI v)), some (.int (nI p))] [] 34 := by
  intro b9
  induction b9 with
  | zero => intro p v hp1 hp2 hb hv h999 h99 h9 h0; omega
  | succ b9 ih =>
  intro p v hp1 hp2 hb hv h999 h99 h9 h0
  have hq := hk.2.1
  have ht2 := hk.1.2.2.1
  have hen := en_b (B := B) hq
  have hk3 := kd_le B t q
  refine g_iload_n (by decide +kernel : decode prog_7_method_10_code 34 = .ok (.iload_n 3, 1)) rfl ?_
  refine g_aload_n (by decide +kernel : decode prog_7_method_10_code 35 = .ok (.aload_n 0, 1)) rfl ?_
  refine g_getI (by decide +kernel : decode prog_7_method_10_code 36 = .ok (.getfield 22, 3)) fl_Tp_22.get rfl rfl ?_
  refine g_top (w := nI (en B t q)) (hk.2.2.2.2) ?_
  refine g_icmp_geN (tgt := 63) (by decide +kernel : decode prog_7_method_10_code 39 = .ok (.if_icmp .ge 24, 3)) (by decide) (by omega) (by omega) (fun h39 => ?_) (fun h39 => ?_)
  · have e9 : p = en B t q := by omega
    have e8 : v = vl B t q := by rw [← hv, e9]; exact (vlF_e (dig_e h2 hq)).symm
    rw [e8]
    refine g_sub (L' := [some (.ref 0), some (.int (nI m)), some (.int (nI (vl B t q))), none]) ⟨rfl, rfl, rfl, trivial⟩ ?_
    exact hK
  · have dg := dig h2 (p := p) (by omega) (by omega)
    have dg2 := cl_2.mp dg.2
    refine g_iload_n (by decide +kernel : decode prog_7_method_10_code 42 = .ok (.iload_n 2, 1)) rfl ?_
    refine g_bipush (v := nI 10) (by decide +kernel : decode prog_7_method_10_code 43 = .ok (.bipush 10, 2)) (by decide) ?_
    refine g_imulN (by decide +kernel : decode prog_7_method_10_code 45 = .ok (.imul, 1)) ?_
    refine g_aload_n (by decide +kernel : decode prog_7_method_10_code 46 = .ok (.aload_n 0, 1)) rfl ?_
    refine g_getR (by decide +kernel : decode prog_7_method_10_code 47 = .ok (.getfield 9, 3)) fl_Tp_9 rfl rfl ?_
    refine g_iload_n (by decide +kernel : decode prog_7_method_10_code 50 = .ok (.iload_n 3, 1)) rfl ?_
    refine g_baload (a := p) (by decide +kernel : decode prog_7_method_10_code 51 = .ok (.baload, 1)) rfl rfl (by omega) (by decide) ?_
    refine g_top (w := nI (B p)) (((hk.1.2.2.2 p dg.1).2).trans (sb_lo (by omega))) ?_
    refine g_bipush (v := nI 48) (by decide +kernel : decode prog_7_method_10_code 52 = .ok (.bipush 48, 2)) (by decide) ?_
    refine g_isubN (by decide +kernel : decode prog_7_method_10_code 54 = .ok (.isub, 1)) (by omega) ?_
    refine g_iaddN (by decide +kernel : decode prog_7_method_10_code 55 = .ok (.iadd, 1)) ?_
    refine g_istore_n (L' := [some (.ref 0), some (.int (nI m)), some (.int (nI (v * 10 + ((B p) - 48)))), some (.int (nI p))]) (by decide +kernel : decode prog_7_method_10_code 56 = .ok (.istore_n 2, 1)) (Nat.le_of_ble_eq_true rfl) rfl ?_
    refine g_iincN (n := 1) (L' := [some (.ref 0), some (.int (nI m)), some (.int (nI (v * 10 + ((B p) - 48)))), some (.int (nI (p + 1)))]) (by decide +kernel : decode prog_7_method_10_code 57 = .ok (.iinc 3 1, 3)) rfl (by decide) (Nat.le_of_ble_eq_true rfl) rfl ?_
    refine g_goto (tgt := 34) (by decide +kernel : decode prog_7_method_10_code 60 = .ok (.goto (-26), 3)) (by decide) ?_
    exact ih (p + 1) _ (by omega) (by omega) (by omega) (by rw [← hv, vlF_s dg.1 dg.2, if_neg (by omega)]; congr 1; omega) (by omega) (by omega) (by omega) (by omega)
set_option maxRecDepth 20000 in
theorem s_takeNumber {σ : Store} {B : Nat → Nat} {t : Nat} {F : Int32} {q : Nat} (hk : Tk B t σ q F) {m : Nat} (hm : m < 2 ^ 31) : Ct ΛT mt_Tp_takeNumber 2 [.ref 0, .int (nI m)] σ (PI (fun r σ' => (isN B t m q ∧ r = nI (vl B t q) ∧ Tk B t σ' (nx B t q) F) ∨ (¬ isN B t m q ∧ r = nI 0 ∧ Tk B t σ' q (fl F q)))) := by
  refine Ct.of (by decide) (Nat.le_of_ble_eq_true rfl) (fun X hR => ?_)
  show G (ΛT, mt_Tp_takeNumber, 2) X σ [some (.ref 0), some (.int (nI m)), none, none] [] 0
  have hq := hk.2.1
  have ht2 := hk.1.2.2.1
  have hen := en_b (B := B) hq
  have hk3 := kd_le B t q
  have hvl := vl_b (B := B) (t := t) (q := q)
  have hK : kd B t q = 2 → en B t q ≤ q + 3 → G (ΛT, mt_Tp_takeNumber, 2) X σ [some (.ref 0), some (.int (nI m)), some (.int (nI (vl B t q))), none] [] 63 := by
    intro h7 h20x
    refine g_iload_n (by decide +kernel : decode prog_7_method_10_code 63 = .ok (.iload_n 2, 1)) rfl ?_
    refine g_iload_n (by decide +kernel : decode prog_7_method_10_code 64 = .ok (.iload_n 1, 1)) rfl ?_
    refine g_icmp_leN (tgt := 74) (by decide +kernel : decode prog_7_method_10_code 65 = .ok (.if_icmp .le 9, 3)) (by decide) (by omega) (by omega) (fun h65 => ?_) (fun h65 => ?_)
    · refine g_aload_n (by decide +kernel : decode prog_7_method_10_code 74 = .ok (.aload_n 0, 1)) rfl ?_
      refine g_callVV [] (by decide +kernel : decode prog_7_method_10_code 75 = .ok (.invokevirtual 25, 3)) lk_Tp_25 (s_adv hk) rfl rfl rfl rfl (Nat.le_of_ble_eq_true rfl) (Nat.le_of_ble_eq_true rfl) (fun s75 h75 => ?_)
      have k75 := h75
      refine g_iload_n (by decide +kernel : decode prog_7_method_10_code 78 = .ok (.iload_n 2, 1)) rfl ?_
      exact g_iret hR (by decide +kernel : decode prog_7_method_10_code 79 = .ok (.ireturn, 1)) rfl ⟨_, rfl, Or.inl ⟨⟨h7, by omega, h65⟩, rfl, k75⟩⟩
    · refine g_aload_n (by decide +kernel : decode prog_7_method_10_code 68 = .ok (.aload_n 0, 1)) rfl ?_
      refine g_callVV [] (by decide +kernel : decode prog_7_method_10_code 69 = .ok (.invokevirtual 61, 3)) lk_Tp_61 (s_fail hk) rfl rfl rfl rfl (Nat.le_of_ble_eq_true rfl) (Nat.le_of_ble_eq_true rfl) (fun s69 h69 => ?_)
      have k69 := h69
      refine g_iconst (v := nI 0) (by decide +kernel : decode prog_7_method_10_code 72 = .ok (.iconst 0, 1)) (by decide) ?_
      exact g_iret hR (by decide +kernel : decode prog_7_method_10_code 73 = .ok (.ireturn, 1)) rfl ⟨_, rfl, Or.inr ⟨fun z => h65 z.2.2, rfl, k69⟩⟩
  refine g_iconst (v := nI 0) (by decide +kernel : decode prog_7_method_10_code 0 = .ok (.iconst 0, 1)) (by decide) ?_
  refine g_istore_n (L' := [some (.ref 0), some (.int (nI m)), some (.int (nI 0)), none]) (by decide +kernel : decode prog_7_method_10_code 1 = .ok (.istore_n 2, 1)) (Nat.le_of_ble_eq_true rfl) rfl ?_
  refine g_aload_n (by decide +kernel : decode prog_7_method_10_code 2 = .ok (.aload_n 0, 1)) rfl ?_
  refine g_getI (by decide +kernel : decode prog_7_method_10_code 3 = .ok (.getfield 28, 3)) fl_Tp_28.get rfl rfl ?_
  refine g_top (w := nI (kd B t q)) (hk.2.2.1) ?_
  refine g_iconst (v := nI 2) (by decide +kernel : decode prog_7_method_10_code 6 = .ok (.iconst 2, 1)) (by decide) ?_
  refine g_icmp_neN (tgt := 23) (by decide +kernel : decode prog_7_method_10_code 7 = .ok (.if_icmp .ne 16, 3)) (by decide) (by omega) (by decide) (fun h7 => ?_) (fun h7 => ?_)
  · refine g_aload_n (by decide +kernel : decode prog_7_method_10_code 23 = .ok (.aload_n 0, 1)) rfl ?_
    refine g_callVV [] (by decide +kernel : decode prog_7_method_10_code 24 = .ok (.invokevirtual 61, 3)) lk_Tp_61 (s_fail hk) rfl rfl rfl rfl (Nat.le_of_ble_eq_true rfl) (Nat.le_of_ble_eq_true rfl) (fun s24 h24 => ?_)
    have k24 := h24
    refine g_iconst (v := nI 0) (by decide +kernel : decode prog_7_method_10_code 27 = .ok (.iconst 0, 1)) (by decide) ?_
    exact g_iret hR (by decide +kernel : decode prog_7_method_10_code 28 = .ok (.ireturn, 1)) rfl ⟨_, rfl, Or.inr ⟨fun z => h7 z.1, rfl, k24⟩⟩
  · refine g_aload_n (by decide +kernel : decode prog_7_method_10_code 10 = .ok (.aload_n 0, 1)) rfl ?_
    refine g_getI (by decide +kernel : decode prog_7_method_10_code 11 = .ok (.getfield 22, 3)) fl_Tp_22.get rfl rfl ?_
    refine g_top (w := nI (en B t q)) (hk.2.2.2.2) ?_
    refine g_aload_n (by decide +kernel : decode prog_7_method_10_code 14 = .ok (.aload_n 0, 1)) rfl ?_
    refine g_getI (by decide +kernel : decode prog_7_method_10_code 15 = .ok (.getfield 104, 3)) fl_Tp_104.get rfl rfl ?_
    refine g_top (w := nI q) (hk.2.2.2.1) ?_
    refine g_isubN (by decide +kernel : decode prog_7_method_10_code 18 = .ok (.isub, 1)) (by omega) ?_
    refine g_iconst (v := nI 3) (by decide +kernel : decode prog_7_method_10_code 19 = .ok (.iconst 3, 1)) (by decide) ?_
    refine g_icmp_leN (tgt := 29) (by decide +kernel : decode prog_7_method_10_code 20 = .ok (.if_icmp .le 9, 3)) (by decide) (by omega) (by decide) (fun h20 => ?_) (fun h20 => ?_)
    · refine g_aload_n (by decide +kernel : decode prog_7_method_10_code 29 = .ok (.aload_n 0, 1)) rfl ?_
      refine g_getI (by decide +kernel : decode prog_7_method_10_code 30 = .ok (.getfield 104, 3)) fl_Tp_104.get rfl rfl ?_
      refine g_top (w := nI q) (hk.2.2.2.1) ?_
      refine g_istore_n (L' := [some (.ref 0), some (.int (nI m)), some (.int (nI 0)), some (.int (nI q))]) (by decide +kernel : decode prog_7_method_10_code 33 = .ok (.istore_n 3, 1)) (Nat.le_of_ble_eq_true rfl) rfl ?_
      have h20x : en B t q ≤ q + 3 := by omega
      exact u_lp hk h7 h20x (hK h7 h20x) (t + 1) q 0 (by omega) (by omega) (by omega) (by unfold vl; rw [if_pos h7]) (by omega) (by omega) (by omega) (by omega)
    · refine g_aload_n (by decide +kernel : decode prog_7_method_10_code 23 = .ok (.aload_n 0, 1)) rfl ?_
      refine g_callVV [] (by decide +kernel : decode prog_7_method_10_code 24 = .ok (.invokevirtual 61, 3)) lk_Tp_61 (s_fail hk) rfl rfl rfl rfl (Nat.le_of_ble_eq_true rfl) (Nat.le_of_ble_eq_true rfl) (fun s24 h24 => ?_)
      have k24 := h24
      refine g_iconst (v := nI 0) (by decide +kernel : decode prog_7_method_10_code 27 = .ok (.iconst 0, 1)) (by decide) ?_
      exact g_iret hR (by decide +kernel : decode prog_7_method_10_code 28 = .ok (.ireturn, 1)) rfl ⟨_, rfl, Or.inr ⟨fun z => h20 (by have := z.2.1; omega), rfl, k24⟩⟩
set_option maxRecDepth 20000 in
theorem s_takeIf {σ : Store} {B : Nat → Nat} {t : Nat} {F : Int32} {q : Nat} (hk : Tk B t σ q F) {i m : Nat} (hi : i < 16) (hm : m < 2 ^ 31) : Ct ΛT mt_Tp_takeNumberIfNamed 6 [.ref 0, .ref (1000 + i), .int (nI m)] σ (PI (fun r σ' => (F = -1 ∧ nm B t q (Wi i) ∧ ((isN B t m (nx B t q) ∧ r = nI (vl B t (nx B t q)) ∧ Tk B t σ' (nx B t (nx B t q)) F) ∨ (¬ isN B t m (nx B t q) ∧ r = nI 0 ∧ Tk B t σ' (nx B t q) (fl F (nx B t q))))) ∨ (¬ (F = -1 ∧ nm B t q (Wi i)) ∧ r = nI 0 ∧ Tk B t σ' q F))) := by
  refine Ct.of (by decide) (Nat.le_of_ble_eq_true rfl) (fun X hR => ?_)
  show G (ΛT, mt_Tp_takeNumberIfNamed, 6) X σ [some (.ref 0), some (.ref (1000 + i)), some (.int (nI m))] [] 0
  refine g_aload_n (by decide +kernel : decode prog_7_method_9_code 0 = .ok (.aload_n 0, 1)) rfl ?_
  refine g_aload_n (by decide +kernel : decode prog_7_method_9_code 1 = .ok (.aload_n 1, 1)) rfl ?_
  refine g_callVI [.ref (1000 + i)] (by decide +kernel : decode prog_7_method_9_code 2 = .ok (.invokevirtual 39, 3)) lk_Tp_39 (s_isNext hk (i := i) hi) rfl rfl rfl rfl (Nat.le_of_ble_eq_true rfl) (Nat.le_of_ble_eq_true rfl) (fun r2 s2 h2 => ?_)
  rcases h2 with ⟨e2, ⟨rfl, q2⟩ | ⟨rfl, q2⟩⟩
  · have e2 := e2.symm; subst e2
    refine g_if_neN (tgt := 10) (by decide +kernel : decode prog_7_method_9_code 5 = .ok (.ifCond .ne 5, 3)) (by decide) (by decide) (fun _ => ?_) (fun h => False.elim (by revert h; decide))
    refine g_aload_n (by decide +kernel : decode prog_7_method_9_code 10 = .ok (.aload_n 0, 1)) rfl ?_
    refine g_callVV [] (by decide +kernel : decode prog_7_method_9_code 11 = .ok (.invokevirtual 25, 3)) lk_Tp_25 (s_adv hk) rfl rfl rfl rfl (Nat.le_of_ble_eq_true rfl) (Nat.le_of_ble_eq_true rfl) (fun s11 h11 => ?_)
    have k11 := h11
    refine g_aload_n (by decide +kernel : decode prog_7_method_9_code 14 = .ok (.aload_n 0, 1)) rfl ?_
    refine g_iload_n (by decide +kernel : decode prog_7_method_9_code 15 = .ok (.iload_n 2, 1)) rfl ?_
    refine g_callVI [.int (nI m)] (by decide +kernel : decode prog_7_method_9_code 16 = .ok (.invokevirtual 70, 3)) lk_Tp_70 (s_takeNumber k11 hm) rfl rfl rfl rfl (Nat.le_of_ble_eq_true rfl) (Nat.le_of_ble_eq_true rfl) (fun r16 s16 h16 => ?_)
    exact g_iret hR (by decide +kernel : decode prog_7_method_9_code 19 = .ok (.ireturn, 1)) rfl ⟨_, rfl, Or.inl ⟨q2.1, q2.2, h16⟩⟩
  · have e2 := e2.symm; subst e2
    refine g_if_neN (tgt := 10) (by decide +kernel : decode prog_7_method_9_code 5 = .ok (.ifCond .ne 5, 3)) (by decide) (by decide) (fun h => False.elim (by revert h; decide)) (fun _ => ?_)
    refine g_iconst (v := nI 0) (by decide +kernel : decode prog_7_method_9_code 8 = .ok (.iconst 0, 1)) (by decide) ?_
    exact g_iret hR (by decide +kernel : decode prog_7_method_9_code 9 = .ok (.ireturn, 1)) rfl ⟨_, rfl, Or.inr ⟨q2, rfl, hk⟩⟩
