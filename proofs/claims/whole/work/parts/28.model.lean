/-! THE REFERENCE: odds, hope, the tape -/
def fct : Nat → Nat
  | 0 => 1
  | k + 1 => fct k * (k + 1)
theorem fct_8 : ∀ n : Fin 9, 0 < fct n.val ∧ fct n.val < 2 ^ 31 := by decide
theorem fct_b {n : Nat} (h : n ≤ 8) : 0 < fct n ∧ fct n < 2 ^ 31 := fct_8 ⟨n, by omega⟩
theorem lN_ne {a : Nat} (h0 : 0 < a) (h : a < 2 ^ 63) : ¬ lN a = 0 := by
  intro q
  have h1 : lN a = lN 0 := q
  rw [pk_lEQ h (by decide)] at h1
  omega
set_option maxRecDepth 20000 in
theorem m_product_lp {Λ : Lay} {X : CX} {σ : Store} {n : Nat} (hn : n ≤ 8) : ∀ (b9 q : Nat), 1 ≤ q → q ≤ n ∨ q = 1 → n + 1 - q < b9 → Rt (Λ, mt_Md_product, 0) (PFL (lN (fct (if n = 0 then 1 else n))) σ) X → G (Λ, mt_Md_product, 0) X σ [some (.int (nI n)), some (.long (lN (fct q))), none, some (.int (nI (q + 1)))] [] 4 := by
  intro b9
  induction b9 with
  | zero => intro q hq1 hq hb hR; omega
  | succ b9 ih =>
  intro q hq1 hq hb hR
  refine g_iload_n (by decide +kernel : decode prog_10_method_74_code 4 = .ok (.iload_n 3, 1)) rfl ?_
  refine g_iload_n (by decide +kernel : decode prog_10_method_74_code 5 = .ok (.iload_n 0, 1)) rfl ?_
  refine g_icmp_gtN (tgt := 20) (by decide +kernel : decode prog_10_method_74_code 6 = .ok (.if_icmp .gt 14, 3)) (by decide) (by omega) (by omega) (fun h6 => ?_) (fun h6 => ?_)
  · refine g_lload_n (by decide +kernel : decode prog_10_method_74_code 20 = .ok (.lload_n 1, 1)) rfl ?_
    exact g_lret hR (by decide +kernel : decode prog_10_method_74_code 21 = .ok (.lreturn, 1)) rfl ⟨_, rfl, ⟨by congr 2; split <;> omega, rfl⟩⟩
  · refine g_lload_n (by decide +kernel : decode prog_10_method_74_code 9 = .ok (.lload_n 1, 1)) rfl ?_
    refine g_iload_n (by decide +kernel : decode prog_10_method_74_code 10 = .ok (.iload_n 3, 1)) rfl ?_
    refine g_i2lN (by decide +kernel : decode prog_10_method_74_code 11 = .ok (.i2l, 1)) (by omega) ?_
    refine g_lmul (by decide +kernel : decode prog_10_method_74_code 12 = .ok (.lmul, 1)) ?_
    refine g_topL (w := lN (fct (q + 1))) (by rw [lN_mul]; rfl) ?_
    refine g_lstore_n (L' := [some (.int (nI n)), some (.long (lN (fct (q + 1)))), none, some (.int (nI (q + 1)))]) (by decide +kernel : decode prog_10_method_74_code 13 = .ok (.lstore_n 1, 1)) (Nat.le_of_ble_eq_true rfl) rfl ?_
    refine g_iincN (n := 1) (L' := [some (.int (nI n)), some (.long (lN (fct (q + 1)))), none, some (.int (nI (q + 1 + 1)))]) (by decide +kernel : decode prog_10_method_74_code 14 = .ok (.iinc 3 1, 3)) rfl (by decide) (Nat.le_of_ble_eq_true rfl) rfl ?_
    refine g_goto (tgt := 4) (by decide +kernel : decode prog_10_method_74_code 17 = .ok (.goto (-13), 3)) (by decide) ?_
    exact ih (q + 1) (by omega) (by omega) (by omega) hR
set_option maxRecDepth 20000 in
theorem m_product0 (Λ : Lay) (σ : Store) (n : Nat) (hn : n ≤ 8) : Ct Λ mt_Md_product 0 [.int (nI n)] σ (PFL (lN (fct (if n = 0 then 1 else n))) σ) := by
  refine Ct.of (by decide) (Nat.le_of_ble_eq_true rfl) (fun X hR => ?_)
  show G (Λ, mt_Md_product, 0) X σ [some (.int (nI n)), none, none, none] [] 0
  refine g_lconst (v := lN 1) (by decide +kernel : decode prog_10_method_74_code 0 = .ok (.lconst 1, 1)) (by decide) ?_
  refine g_lstore_n (L' := [some (.int (nI n)), some (.long (lN 1)), none, none]) (by decide +kernel : decode prog_10_method_74_code 1 = .ok (.lstore_n 1, 1)) (Nat.le_of_ble_eq_true rfl) rfl ?_
  refine g_iconst (v := nI 2) (by decide +kernel : decode prog_10_method_74_code 2 = .ok (.iconst 2, 1)) (by decide) ?_
  refine g_istore_n (L' := [some (.int (nI n)), some (.long (lN 1)), none, some (.int (nI 2))]) (by decide +kernel : decode prog_10_method_74_code 3 = .ok (.istore_n 3, 1)) (Nat.le_of_ble_eq_true rfl) rfl ?_
  exact m_product_lp hn (n + 2) 1 (by omega) (by omega) (by omega) hR
theorem m_product (Λ : Lay) (σ : Store) (n : Nat) (hn : n ≤ 8) : Ct Λ mt_Md_product 0 [.int (nI n)] σ (PFL (lN (fct n)) σ) := by
  have h := m_product0 Λ σ n hn
  by_cases e : n = 0
  · subst e; exact h
  · rw [if_neg e] at h; exact h
/-- a part of a fraction -/
def ptF (a b w : Nat) : Nat := if w = 0 then a / Nat.gcd a b else b / Nat.gcd a b
set_option maxRecDepth 20000 in
theorem m_partOf_lp {Λ : Lay} {X : CX} {σ : Store} {A C w : Nat} (hA : A < 2 ^ 63) (hC : C < 2 ^ 63) : ∀ (b9 a b : Nat), b < b9 → a < 2 ^ 63 → b < 2 ^ 63 → 0 < a → Nat.gcd a b = Nat.gcd A C → w < 2 → Rt (Λ, mt_Md_partOf, 0) (PFL (lN (ptF A C w)) σ) X → G (Λ, mt_Md_partOf, 0) X σ [some (.long (lN A)), none, some (.long (lN C)), none, some (.int (nI w)), some (.long (lN a)), none, some (.long (lN b)), none, none, none] [] 6 := by
  intro b9
  induction b9 with
  | zero => intro a b hb9 ha hb ha0 hg hw hR; omega
  | succ b9 ih =>
  intro a b hb9 ha hb ha0 hg hw hR
  refine g_lload (by decide +kernel : decode prog_10_method_75_code 6 = .ok (.lload 7, 2)) rfl ?_
  refine g_lconst (v := lN 0) (by decide +kernel : decode prog_10_method_75_code 8 = .ok (.lconst 0, 1)) (by decide) ?_
  refine g_lcmp (by decide +kernel : decode prog_10_method_75_code 9 = .ok (.lcmp, 1)) ?_
  refine g_if_eq (tgt := 31) (by decide +kernel : decode prog_10_method_75_code 10 = .ok (.ifCond .eq 21, 3)) (by decide) (fun h10 => ?_) (fun h10 => ?_)
  · have hb0 : b = 0 := (pk_lEQ (by omega) (by decide)).mp (lg_ne0.mp h10)
    refine g_iload (by decide +kernel : decode prog_10_method_75_code 31 = .ok (.iload 4, 2)) rfl ?_
    refine g_if_neN (tgt := 43) (by decide +kernel : decode prog_10_method_75_code 33 = .ok (.ifCond .ne 10, 3)) (by decide) (by omega) (fun h33 => ?_) (fun h33 => ?_)
    · refine g_lload_n (by decide +kernel : decode prog_10_method_75_code 43 = .ok (.lload_n 2, 1)) rfl ?_
      refine g_lload (by decide +kernel : decode prog_10_method_75_code 44 = .ok (.lload 5, 2)) rfl ?_
      refine g_ldiv (by decide +kernel : decode prog_10_method_75_code 46 = .ok (.ldiv, 1)) (lN_ne (by omega) (by omega)) ?_
      refine g_topL (w := lN (C / a)) (pk_lDiv (by omega) (by omega) (by omega)) ?_
      exact g_lret hR (by decide +kernel : decode prog_10_method_75_code 47 = .ok (.lreturn, 1)) rfl ⟨_, rfl, ⟨by unfold ptF; rw [if_neg h33, ← hg, hb0, Nat.gcd_zero_right], rfl⟩⟩
    · refine g_lload_n (by decide +kernel : decode prog_10_method_75_code 36 = .ok (.lload_n 0, 1)) rfl ?_
      refine g_lload (by decide +kernel : decode prog_10_method_75_code 37 = .ok (.lload 5, 2)) rfl ?_
      refine g_ldiv (by decide +kernel : decode prog_10_method_75_code 39 = .ok (.ldiv, 1)) (lN_ne (by omega) (by omega)) ?_
      refine g_topL (w := lN (A / a)) (pk_lDiv (by omega) (by omega) (by omega)) ?_
      refine g_goto (tgt := 47) (by decide +kernel : decode prog_10_method_75_code 40 = .ok (.goto 7, 3)) (by decide) ?_
      exact g_lret hR (by decide +kernel : decode prog_10_method_75_code 47 = .ok (.lreturn, 1)) rfl ⟨_, rfl, ⟨by unfold ptF; rw [if_pos h33, ← hg, hb0, Nat.gcd_zero_right], rfl⟩⟩
  · have hb0 : b ≠ 0 := fun z => h10 (lg_ne0.mpr (by rw [z]))
    refine g_lload (by decide +kernel : decode prog_10_method_75_code 13 = .ok (.lload 5, 2)) rfl ?_
    refine g_lload (by decide +kernel : decode prog_10_method_75_code 15 = .ok (.lload 7, 2)) rfl ?_
    refine g_lrem (by decide +kernel : decode prog_10_method_75_code 17 = .ok (.lrem, 1)) (lN_ne (by omega) (by omega)) ?_
    refine g_topL (w := lN (a % b)) (pk_lRem (by omega) (by omega) (by omega)) ?_
    refine g_lstore (L' := [some (.long (lN A)), none, some (.long (lN C)), none, some (.int (nI w)), some (.long (lN a)), none, some (.long (lN b)), none, some (.long (lN (a % b))), none]) (by decide +kernel : decode prog_10_method_75_code 18 = .ok (.lstore 9, 2)) (Nat.le_of_ble_eq_true rfl) rfl ?_
    refine g_lload (by decide +kernel : decode prog_10_method_75_code 20 = .ok (.lload 7, 2)) rfl ?_
    refine g_lstore (L' := [some (.long (lN A)), none, some (.long (lN C)), none, some (.int (nI w)), some (.long (lN b)), none, some (.long (lN b)), none, some (.long (lN (a % b))), none]) (by decide +kernel : decode prog_10_method_75_code 22 = .ok (.lstore 5, 2)) (Nat.le_of_ble_eq_true rfl) rfl ?_
    refine g_lload (by decide +kernel : decode prog_10_method_75_code 24 = .ok (.lload 9, 2)) rfl ?_
    refine g_lstore (L' := [some (.long (lN A)), none, some (.long (lN C)), none, some (.int (nI w)), some (.long (lN b)), none, some (.long (lN (a % b))), none, some (.long (lN (a % b))), none]) (by decide +kernel : decode prog_10_method_75_code 26 = .ok (.lstore 7, 2)) (Nat.le_of_ble_eq_true rfl) rfl ?_
    refine g_goto (tgt := 6) (by decide +kernel : decode prog_10_method_75_code 28 = .ok (.goto (-22), 3)) (by decide) ?_
    refine g_sub (L' := [some (.long (lN A)), none, some (.long (lN C)), none, some (.int (nI w)), some (.long (lN b)), none, some (.long (lN (a % b))), none, none, none]) ⟨rfl, rfl, rfl, rfl, rfl, trivial⟩ ?_
    have hmod : a % b < b := Nat.mod_lt _ (by omega)
    exact ih b (a % b) (by omega) (by omega) (by omega) (by omega) (by rw [← hg, Nat.gcd_comm a b, Nat.gcd_rec b a, Nat.gcd_comm]) hw hR
set_option maxRecDepth 20000 in
theorem m_partOf (Λ : Lay) (σ : Store) (A C w : Nat) (hA : A < 2 ^ 63) (hC : C < 2 ^ 63) (hC0 : 0 < C) (hw : w < 2) : Ct Λ mt_Md_partOf 0 [.long (lN A), .long (lN C), .int (nI w)] σ (PFL (lN (ptF A C w)) σ) := by
  refine Ct.of (by decide) (Nat.le_of_ble_eq_true rfl) (fun X hR => ?_)
  show G (Λ, mt_Md_partOf, 0) X σ [some (.long (lN A)), none, some (.long (lN C)), none, some (.int (nI w)), none, none, none, none, none, none] [] 0
  refine g_lload_n (by decide +kernel : decode prog_10_method_75_code 0 = .ok (.lload_n 2, 1)) rfl ?_
  refine g_lstore (L' := [some (.long (lN A)), none, some (.long (lN C)), none, some (.int (nI w)), some (.long (lN C)), none, none, none, none, none]) (by decide +kernel : decode prog_10_method_75_code 1 = .ok (.lstore 5, 2)) (Nat.le_of_ble_eq_true rfl) rfl ?_
  refine g_lload_n (by decide +kernel : decode prog_10_method_75_code 3 = .ok (.lload_n 0, 1)) rfl ?_
  refine g_lstore (L' := [some (.long (lN A)), none, some (.long (lN C)), none, some (.int (nI w)), some (.long (lN C)), none, some (.long (lN A)), none, none, none]) (by decide +kernel : decode prog_10_method_75_code 4 = .ok (.lstore 7, 2)) (Nat.le_of_ble_eq_true rfl) rfl ?_
  refine g_sub (L' := [some (.long (lN A)), none, some (.long (lN C)), none, some (.int (nI w)), some (.long (lN C)), none, some (.long (lN A)), none, none, none]) ⟨rfl, rfl, rfl, rfl, rfl, trivial⟩ ?_
  exact m_partOf_lp hA hC (A + 1) C A (by omega) hC hA hC0 (Nat.gcd_comm _ _) hw hR
/-- the numerator of the odds: i factors -/
def abF (c p k : Nat) : Nat → Nat
  | 0 => c
  | i + 1 => abF c p k i * (if i < k then p else 100 - p)
theorem abF_le {c p k : Nat} (hp : p ≤ 100) : ∀ i, abF c p k i ≤ c * 100 ^ i := by
  intro i
  induction i with
  | zero => simp [abF]
  | succ i ih =>
    have h1 : (if i < k then p else 100 - p) ≤ 100 := by split <;> omega
    show abF c p k i * _ ≤ _
    calc abF c p k i * (if i < k then p else 100 - p) ≤ (c * 100 ^ i) * 100 := Nat.mul_le_mul ih h1
      _ = c * 100 ^ (i + 1) := by rw [Nat.pow_succ, Nat.mul_assoc]
def bin (n k : Nat) : Nat := fct n / fct k / fct (n - k)
theorem bin_8 : ∀ n : Fin 9, ∀ k : Fin 9, bin n.val k.val ≤ 40320 := by decide
theorem pow_8 {i : Nat} (h : i ≤ 8) : 0 < 100 ^ i ∧ 100 ^ i ≤ 10000000000000000 := by
  have h1 : 100 ^ i ≤ 100 ^ 8 := Nat.pow_le_pow_right (by decide) h
  exact ⟨Nat.pow_pos (by decide), h1⟩
def bn8 (n k : Nat) : Prop := bin n k ≤ 70
theorem bin_70 : ∀ n : Fin 9, ∀ k : Fin 9, k.val ≤ n.val → bin n.val k.val ≤ 70 := by decide
theorem ab_lt {n k p i : Nat} (hn : n ≤ 8) (hk : k ≤ n) (hp : p ≤ 100) (hi : i ≤ 8) : abF (bin n k) p k i < 2 ^ 62 := by
  have h1 := abF_le (c := bin n k) (k := k) hp i
  have h2 := (pow_8 hi).2
  have h3 : bin n k ≤ 70 := bin_70 ⟨n, by omega⟩ ⟨k, by omega⟩ hk
  have h4 : bin n k * 100 ^ i ≤ 70 * 10000000000000000 := Nat.mul_le_mul h3 h2
  omega
def oddsV (f : Row) (x y z : Int32) : Int64 := match rg 0 8 x with
  | none => -1
  | some n => match rg 0 n y with
    | none => -1
    | some k => match rg 0 1 z with
      | none => -1
      | some w => lN (ptF (abF (bin n k) (tn (f 6)) k n) (100 ^ n) w)
def hopeV (f : Row) (x y : Int32) : Int64 := match rg 0 99 x with
  | none => -1
  | some n => match rg 0 1 y with
    | none => -1
    | some w => lN (ptF (n * tn (f 6)) 100 w)
set_option maxRecDepth 20000 in
theorem q_odds_lp {X : CX} {σ : Store} {f b : Row} (hI : Inv f) {n k w : Nat} (hn : n ≤ 8) (hk : k ≤ n) (hw : w < 2) {Post : Option Value → Store → Prop} (hp : Post (some (.long (lN (ptF (abF (bin n k) (tn (f 6)) k n) (100 ^ n) w)))) (mS σ f b)) : ∀ (b9 i : Nat), i ≤ n → n - i < b9 → Rt (ΛM, mt_Md_odds, 1) (Post) X → G (ΛM, mt_Md_odds, 1) X (mS σ f b) [some (.ref 0), some (.int (nI n)), some (.int (nI k)), some (.int (nI w)), some (.long (lN (abF (bin n k) (tn (f 6)) k i))), none, some (.long (lN (100 ^ i))), none, some (.int (nI i))] [] 61 := by
  intro b9
  induction b9 with
  | zero => intro i hi hb hR; omega
  | succ b9 ih =>
  intro i hi hb hR
  have h6 : tn (f 6) ≤ 99 := (hI.2.2.1 3 (by decide)).e.2
  have hab := ab_lt (n := n) (k := k) (p := tn (f 6)) (i := i) hn hk (by omega) (by omega)
  have hpw := pow_8 (i := i) (by omega)
  refine g_iload (by decide +kernel : decode prog_10_method_78_code 61 = .ok (.iload 8, 2)) rfl ?_
  refine g_iload_n (by decide +kernel : decode prog_10_method_78_code 63 = .ok (.iload_n 1, 1)) rfl ?_
  refine g_icmp_geN (tgt := 114) (by decide +kernel : decode prog_10_method_78_code 64 = .ok (.if_icmp .ge 50, 3)) (by decide) (by omega) (by omega) (fun h64 => ?_) (fun h64 => ?_)
  · refine g_lload (by decide +kernel : decode prog_10_method_78_code 114 = .ok (.lload 4, 2)) rfl ?_
    refine g_lload (by decide +kernel : decode prog_10_method_78_code 116 = .ok (.lload 6, 2)) rfl ?_
    refine g_iload_n (by decide +kernel : decode prog_10_method_78_code 118 = .ok (.iload_n 3, 1)) rfl ?_
    refine g_callSL [.long (lN (abF (bin n k) (tn (f 6)) k i)), .long (lN (100 ^ i)), .int (nI w)] (by decide +kernel : decode prog_10_method_78_code 119 = .ok (.invokestatic 254, 3)) lk_Md_254 (m_partOf ΛM (mS σ f b) (abF (bin n k) (tn (f 6)) k i) (100 ^ i) w (by omega) (by omega) (by omega) (by omega)) rfl rfl (Nat.le_of_ble_eq_true rfl) (Nat.le_of_ble_eq_true rfl) (fun r119 s119 h119 => ?_)
    obtain ⟨rfl, rfl⟩ := h119
    exact g_lret hR (by decide +kernel : decode prog_10_method_78_code 122 = .ok (.lreturn, 1)) rfl ((show i = n by omega) ▸ hp)
  · refine g_lload (by decide +kernel : decode prog_10_method_78_code 67 = .ok (.lload 4, 2)) rfl ?_
    refine g_iload (by decide +kernel : decode prog_10_method_78_code 69 = .ok (.iload 8, 2)) rfl ?_
    refine g_iload_n (by decide +kernel : decode prog_10_method_78_code 71 = .ok (.iload_n 2, 1)) rfl ?_
    have J72 : G (ΛM, mt_Md_odds, 1) X (mS σ f b) [some (.ref 0), some (.int (nI n)), some (.int (nI k)), some (.int (nI w)), some (.long (lN (abF (bin n k) (tn (f 6)) k i))), none, some (.long (lN (100 ^ i))), none, some (.int (nI i))] [.long (lN (if i < k then tn (f 6) else 100 - tn (f 6))), .long (lN (abF (bin n k) (tn (f 6)) k i))] 97 := by
      refine g_lmul (by decide +kernel : decode prog_10_method_78_code 97 = .ok (.lmul, 1)) ?_
      refine g_topL (w := lN (abF (bin n k) (tn (f 6)) k (i + 1))) (by rw [lN_mul]; rfl) ?_
      refine g_lstore (L' := [some (.ref 0), some (.int (nI n)), some (.int (nI k)), some (.int (nI w)), some (.long (lN (abF (bin n k) (tn (f 6)) k (i + 1)))), none, some (.long (lN (100 ^ i))), none, some (.int (nI i))]) (by decide +kernel : decode prog_10_method_78_code 98 = .ok (.lstore 4, 2)) (Nat.le_of_ble_eq_true rfl) rfl ?_
      refine g_lload (by decide +kernel : decode prog_10_method_78_code 100 = .ok (.lload 6, 2)) rfl ?_
      refine g_ldc2 (v := lN 100) (by decide +kernel : decode prog_10_method_78_code 102 = .ok (.ldc2_w 252, 3)) kc_Md_252 ?_
      refine g_lmul (by decide +kernel : decode prog_10_method_78_code 105 = .ok (.lmul, 1)) ?_
      refine g_topL (w := lN (100 ^ (i + 1))) (by rw [lN_mul]; rfl) ?_
      refine g_lstore (L' := [some (.ref 0), some (.int (nI n)), some (.int (nI k)), some (.int (nI w)), some (.long (lN (abF (bin n k) (tn (f 6)) k (i + 1)))), none, some (.long (lN (100 ^ (i + 1)))), none, some (.int (nI i))]) (by decide +kernel : decode prog_10_method_78_code 106 = .ok (.lstore 6, 2)) (Nat.le_of_ble_eq_true rfl) rfl ?_
      refine g_iincN (n := 1) (L' := [some (.ref 0), some (.int (nI n)), some (.int (nI k)), some (.int (nI w)), some (.long (lN (abF (bin n k) (tn (f 6)) k (i + 1)))), none, some (.long (lN (100 ^ (i + 1)))), none, some (.int (nI (i + 1)))]) (by decide +kernel : decode prog_10_method_78_code 108 = .ok (.iinc 8 1, 3)) rfl (by decide) (Nat.le_of_ble_eq_true rfl) rfl ?_
      refine g_goto (tgt := 61) (by decide +kernel : decode prog_10_method_78_code 111 = .ok (.goto (-50), 3)) (by decide) ?_
      exact ih (i + 1) (by omega) (by omega) hR
    refine g_icmp_geN (tgt := 86) (by decide +kernel : decode prog_10_method_78_code 72 = .ok (.if_icmp .ge 14, 3)) (by decide) (by omega) (by omega) (fun h72 => ?_) (fun h72 => ?_)
    · refine g_bipush (v := nI 100) (by decide +kernel : decode prog_10_method_78_code 86 = .ok (.bipush 100, 2)) (by decide) ?_
      refine g_aload_n (by decide +kernel : decode prog_10_method_78_code 88 = .ok (.aload_n 0, 1)) rfl ?_
      refine g_getR (by decide +kernel : decode prog_10_method_78_code 89 = .ok (.getfield 7, 3)) fl_Md_7 rfl rfl ?_
      refine g_bipush (v := nI 6) (by decide +kernel : decode prog_10_method_78_code 92 = .ok (.bipush 6, 2)) (by decide) ?_
      refine g_iaload (a := 6) (by decide +kernel : decode prog_10_method_78_code 94 = .ok (.iaload, 1)) rfl rfl (by decide) (by decide) ?_
      refine g_top (w := nI (tn (f 6))) ((hI.2.2.1 3 (by decide)).e.1) ?_
      refine g_isubN (by decide +kernel : decode prog_10_method_78_code 95 = .ok (.isub, 1)) (by omega) ?_
      refine g_i2lN (by decide +kernel : decode prog_10_method_78_code 96 = .ok (.i2l, 1)) (by omega) ?_
      exact g_topL (by rw [if_neg (by omega)]) J72
    · refine g_aload_n (by decide +kernel : decode prog_10_method_78_code 75 = .ok (.aload_n 0, 1)) rfl ?_
      refine g_getR (by decide +kernel : decode prog_10_method_78_code 76 = .ok (.getfield 7, 3)) fl_Md_7 rfl rfl ?_
      refine g_bipush (v := nI 6) (by decide +kernel : decode prog_10_method_78_code 79 = .ok (.bipush 6, 2)) (by decide) ?_
      refine g_iaload (a := 6) (by decide +kernel : decode prog_10_method_78_code 81 = .ok (.iaload, 1)) rfl rfl (by decide) (by decide) ?_
      refine g_top (w := nI (tn (f 6))) ((hI.2.2.1 3 (by decide)).e.1) ?_
      refine g_i2lN (by decide +kernel : decode prog_10_method_78_code 82 = .ok (.i2l, 1)) (by omega) ?_
      refine g_goto (tgt := 97) (by decide +kernel : decode prog_10_method_78_code 83 = .ok (.goto 14, 3)) (by decide) ?_
      exact g_topL (by rw [if_pos (by omega)]) J72
set_option maxRecDepth 20000 in
theorem q_odds (σ : Store) (f b : Row) (hI : Inv f) (x y z : Int32) : Ct ΛM mt_Md_odds 1 [.ref 0, .int x, .int y, .int z] (mS σ f b) (PFL (oddsV f x y z) (mS σ f b)) := by
  refine Ct.of (by decide) (Nat.le_of_ble_eq_true rfl) (fun X hR => ?_)
  show G (ΛM, mt_Md_odds, 1) X (mS σ f b) [some (.ref 0), some (.int x), some (.int y), some (.int z), none, none, none, none, none] [] 0
  refine g_iload_n (by decide +kernel : decode prog_10_method_78_code 0 = .ok (.iload_n 1, 1)) rfl ?_
  refine g_i2l (by decide +kernel : decode prog_10_method_78_code 1 = .ok (.i2l, 1)) ?_
  refine g_lconst (v := lN 0) (by decide +kernel : decode prog_10_method_78_code 2 = .ok (.lconst 0, 1)) (by decide) ?_
  refine g_ldc2 (v := lN 8) (by decide +kernel : decode prog_10_method_78_code 3 = .ok (.ldc2_w 55, 3)) kc_Md_55 ?_
  refine g_callSI [.long (Int32.toInt64 x), .long (lN 0), .long (lN 8)] (by decide +kernel : decode prog_10_method_78_code 6 = .ok (.invokestatic 57, 3)) lk_Md_57 (m_isInN ΛM (mS σ f b) x 0 8) rfl rfl (Nat.le_of_ble_eq_true rfl) (Nat.le_of_ble_eq_true rfl) (fun r6 s6 h6 => ?_)
  rcases h6 with ⟨rfl, ⟨rfl, n, ha6, hb6, rfl⟩ | ⟨rfl, n6⟩⟩
  · refine g_if_eqN (tgt := 33) (by decide +kernel : decode prog_10_method_78_code 9 = .ok (.ifCond .eq 24, 3)) (by decide) (by decide) (fun h => False.elim (by revert h; decide)) (fun _ => ?_)
    refine g_iload_n (by decide +kernel : decode prog_10_method_78_code 12 = .ok (.iload_n 2, 1)) rfl ?_
    refine g_i2l (by decide +kernel : decode prog_10_method_78_code 13 = .ok (.i2l, 1)) ?_
    refine g_lconst (v := lN 0) (by decide +kernel : decode prog_10_method_78_code 14 = .ok (.lconst 0, 1)) (by decide) ?_
    refine g_iload_n (by decide +kernel : decode prog_10_method_78_code 15 = .ok (.iload_n 1, 1)) rfl ?_
    refine g_i2lN (by decide +kernel : decode prog_10_method_78_code 16 = .ok (.i2l, 1)) (by omega) ?_
    refine g_callSI [.long (Int32.toInt64 y), .long (lN 0), .long (lN n)] (by decide +kernel : decode prog_10_method_78_code 17 = .ok (.invokestatic 57, 3)) lk_Md_57 (m_isInN ΛM (mS σ f b) y 0 n (by omega) (Nat.zero_le _)) rfl rfl (Nat.le_of_ble_eq_true rfl) (Nat.le_of_ble_eq_true rfl) (fun r17 s17 h17 => ?_)
    rcases h17 with ⟨rfl, ⟨rfl, k, ha17, hb17, rfl⟩ | ⟨rfl, n17⟩⟩
    · refine g_if_eqN (tgt := 33) (by decide +kernel : decode prog_10_method_78_code 20 = .ok (.ifCond .eq 13, 3)) (by decide) (by decide) (fun h => False.elim (by revert h; decide)) (fun _ => ?_)
      refine g_iload_n (by decide +kernel : decode prog_10_method_78_code 23 = .ok (.iload_n 3, 1)) rfl ?_
      refine g_i2l (by decide +kernel : decode prog_10_method_78_code 24 = .ok (.i2l, 1)) ?_
      refine g_lconst (v := lN 0) (by decide +kernel : decode prog_10_method_78_code 25 = .ok (.lconst 0, 1)) (by decide) ?_
      refine g_lconst (v := lN 1) (by decide +kernel : decode prog_10_method_78_code 26 = .ok (.lconst 1, 1)) (by decide) ?_
      refine g_callSI [.long (Int32.toInt64 z), .long (lN 0), .long (lN 1)] (by decide +kernel : decode prog_10_method_78_code 27 = .ok (.invokestatic 57, 3)) lk_Md_57 (m_isInN ΛM (mS σ f b) z 0 1) rfl rfl (Nat.le_of_ble_eq_true rfl) (Nat.le_of_ble_eq_true rfl) (fun r27 s27 h27 => ?_)
      rcases h27 with ⟨rfl, ⟨rfl, w, ha27, hb27, rfl⟩ | ⟨rfl, n27⟩⟩
      · refine g_if_neN (tgt := 37) (by decide +kernel : decode prog_10_method_78_code 30 = .ok (.ifCond .ne 7, 3)) (by decide) (by decide) (fun _ => ?_) (fun h => False.elim (by revert h; decide))
        refine g_iload_n (by decide +kernel : decode prog_10_method_78_code 37 = .ok (.iload_n 1, 1)) rfl ?_
        refine g_callSL [.int (nI n)] (by decide +kernel : decode prog_10_method_78_code 38 = .ok (.invokestatic 248, 3)) lk_Md_248 (m_product ΛM (mS σ f b) (n) (by omega)) rfl rfl (Nat.le_of_ble_eq_true rfl) (Nat.le_of_ble_eq_true rfl) (fun r38 s38 h38 => ?_)
        obtain ⟨rfl, rfl⟩ := h38
        refine g_iload_n (by decide +kernel : decode prog_10_method_78_code 41 = .ok (.iload_n 2, 1)) rfl ?_
        refine g_callSL [.int (nI k)] (by decide +kernel : decode prog_10_method_78_code 42 = .ok (.invokestatic 248, 3)) lk_Md_248 (m_product ΛM (mS σ f b) (k) (by omega)) rfl rfl (Nat.le_of_ble_eq_true rfl) (Nat.le_of_ble_eq_true rfl) (fun r42 s42 h42 => ?_)
        obtain ⟨rfl, rfl⟩ := h42
        refine g_ldiv (by decide +kernel : decode prog_10_method_78_code 45 = .ok (.ldiv, 1)) (lN_ne (fct_b (n := k) (by omega)).1 (by have h9 := (fct_b (n := k) (by omega)).2; omega)) ?_
        refine g_topL (w := lN (fct n / fct k)) (pk_lDiv (by have h9 := (fct_b (n := n) (by omega)).2; omega) (fct_b (n := k) (by omega)).1 (by have h9 := (fct_b (n := k) (by omega)).2; omega)) ?_
        refine g_iload_n (by decide +kernel : decode prog_10_method_78_code 46 = .ok (.iload_n 1, 1)) rfl ?_
        refine g_iload_n (by decide +kernel : decode prog_10_method_78_code 47 = .ok (.iload_n 2, 1)) rfl ?_
        refine g_isubN (by decide +kernel : decode prog_10_method_78_code 48 = .ok (.isub, 1)) (by omega) ?_
        refine g_callSL [.int (nI (n - k))] (by decide +kernel : decode prog_10_method_78_code 49 = .ok (.invokestatic 248, 3)) lk_Md_248 (m_product ΛM (mS σ f b) (n - k) (by omega)) rfl rfl (Nat.le_of_ble_eq_true rfl) (Nat.le_of_ble_eq_true rfl) (fun r49 s49 h49 => ?_)
        obtain ⟨rfl, rfl⟩ := h49
        refine g_ldiv (by decide +kernel : decode prog_10_method_78_code 52 = .ok (.ldiv, 1)) (lN_ne (fct_b (n := n - k) (by omega)).1 (by have h9 := (fct_b (n := n - k) (by omega)).2; omega)) ?_
        refine g_topL (w := lN (bin n k)) (pk_lDiv (by have h9 := (fct_b (n := n) (by omega)).2; have h8 := Nat.div_le_self (fct n) (fct k); omega) (fct_b (n := n - k) (by omega)).1 (by have h9 := (fct_b (n := n - k) (by omega)).2; omega)) ?_
        refine g_lstore (L' := [some (.ref 0), some (.int (nI n)), some (.int (nI k)), some (.int (nI w)), some (.long (lN (bin n k))), none, none, none, none]) (by decide +kernel : decode prog_10_method_78_code 53 = .ok (.lstore 4, 2)) (Nat.le_of_ble_eq_true rfl) rfl ?_
        refine g_lconst (v := lN 1) (by decide +kernel : decode prog_10_method_78_code 55 = .ok (.lconst 1, 1)) (by decide) ?_
        refine g_lstore (L' := [some (.ref 0), some (.int (nI n)), some (.int (nI k)), some (.int (nI w)), some (.long (lN (bin n k))), none, some (.long (lN 1)), none, none]) (by decide +kernel : decode prog_10_method_78_code 56 = .ok (.lstore 6, 2)) (Nat.le_of_ble_eq_true rfl) rfl ?_
        refine g_iconst (v := nI 0) (by decide +kernel : decode prog_10_method_78_code 58 = .ok (.iconst 0, 1)) (by decide) ?_
        refine g_istore (L' := [some (.ref 0), some (.int (nI n)), some (.int (nI k)), some (.int (nI w)), some (.long (lN (bin n k))), none, some (.long (lN 1)), none, some (.int (nI 0))]) (by decide +kernel : decode prog_10_method_78_code 59 = .ok (.istore 8, 2)) (Nat.le_of_ble_eq_true rfl) rfl ?_
        exact q_odds_lp hI (by omega) (by omega) (by omega) ⟨_, rfl, by simp only [oddsV, rg_of ha6 hb6, rg_of ha17 hb17 (show n < 2 ^ 31 by omega), rg_of ha27 hb27], rfl⟩ (n + 1) 0 (Nat.zero_le _) (by omega) hR
      · refine g_if_neN (tgt := 37) (by decide +kernel : decode prog_10_method_78_code 30 = .ok (.ifCond .ne 7, 3)) (by decide) (by decide) (fun h => False.elim (by revert h; decide)) (fun _ => ?_)
        refine g_ldc2 (v := -1) (by decide +kernel : decode prog_10_method_78_code 33 = .ok (.ldc2_w 246, 3)) kc_Md_246 ?_
        exact g_lret hR (by decide +kernel : decode prog_10_method_78_code 36 = .ok (.lreturn, 1)) rfl ⟨_, rfl, ⟨by simp only [oddsV, rg_of ha6 hb6, rg_of ha17 hb17 (show n < 2 ^ 31 by omega), rg_none n27], rfl⟩⟩
    · refine g_if_eqN (tgt := 33) (by decide +kernel : decode prog_10_method_78_code 20 = .ok (.ifCond .eq 13, 3)) (by decide) (by decide) (fun _ => ?_) (fun h => False.elim (by revert h; decide))
      refine g_ldc2 (v := -1) (by decide +kernel : decode prog_10_method_78_code 33 = .ok (.ldc2_w 246, 3)) kc_Md_246 ?_
      exact g_lret hR (by decide +kernel : decode prog_10_method_78_code 36 = .ok (.lreturn, 1)) rfl ⟨_, rfl, ⟨by simp only [oddsV, rg_of ha6 hb6, rg_none n17 (show n < 2 ^ 31 by omega) (Nat.zero_le _)], rfl⟩⟩
  · refine g_if_eqN (tgt := 33) (by decide +kernel : decode prog_10_method_78_code 9 = .ok (.ifCond .eq 24, 3)) (by decide) (by decide) (fun _ => ?_) (fun h => False.elim (by revert h; decide))
    refine g_ldc2 (v := -1) (by decide +kernel : decode prog_10_method_78_code 33 = .ok (.ldc2_w 246, 3)) kc_Md_246 ?_
    exact g_lret hR (by decide +kernel : decode prog_10_method_78_code 36 = .ok (.lreturn, 1)) rfl ⟨_, rfl, ⟨by simp only [oddsV, rg_none n6], rfl⟩⟩
set_option maxRecDepth 20000 in
theorem q_hope (σ : Store) (f b : Row) (hI : Inv f) (x y : Int32) : Ct ΛM mt_Md_hope 1 [.ref 0, .int x, .int y] (mS σ f b) (PFL (hopeV f x y) (mS σ f b)) := by
  refine Ct.of (by decide) (Nat.le_of_ble_eq_true rfl) (fun X hR => ?_)
  show G (ΛM, mt_Md_hope, 1) X (mS σ f b) [some (.ref 0), some (.int x), some (.int y)] [] 0
  have h6 : tn (f 6) ≤ 99 := (hI.2.2.1 3 (by decide)).e.2
  have hml : ∀ n, n ≤ 99 → n * tn (f 6) ≤ 99 * 99 := fun n hn => Nat.mul_le_mul hn h6
  refine g_iload_n (by decide +kernel : decode prog_10_method_79_code 0 = .ok (.iload_n 1, 1)) rfl ?_
  refine g_i2l (by decide +kernel : decode prog_10_method_79_code 1 = .ok (.i2l, 1)) ?_
  refine g_lconst (v := lN 0) (by decide +kernel : decode prog_10_method_79_code 2 = .ok (.lconst 0, 1)) (by decide) ?_
  refine g_ldc2 (v := lN 99) (by decide +kernel : decode prog_10_method_79_code 3 = .ok (.ldc2_w 162, 3)) kc_Md_162 ?_
  refine g_callSI [.long (Int32.toInt64 x), .long (lN 0), .long (lN 99)] (by decide +kernel : decode prog_10_method_79_code 6 = .ok (.invokestatic 57, 3)) lk_Md_57 (m_isInN ΛM (mS σ f b) x 0 99) rfl rfl (Nat.le_of_ble_eq_true rfl) (Nat.le_of_ble_eq_true rfl) (fun r6 s6 h6 => ?_)
  rcases h6 with ⟨rfl, ⟨rfl, n, ha6, hb6, rfl⟩ | ⟨rfl, n6⟩⟩
  · refine g_if_eqN (tgt := 43) (by decide +kernel : decode prog_10_method_79_code 9 = .ok (.ifCond .eq 34, 3)) (by decide) (by decide) (fun h => False.elim (by revert h; decide)) (fun _ => ?_)
    refine g_iload_n (by decide +kernel : decode prog_10_method_79_code 12 = .ok (.iload_n 2, 1)) rfl ?_
    refine g_i2l (by decide +kernel : decode prog_10_method_79_code 13 = .ok (.i2l, 1)) ?_
    refine g_lconst (v := lN 0) (by decide +kernel : decode prog_10_method_79_code 14 = .ok (.lconst 0, 1)) (by decide) ?_
    refine g_lconst (v := lN 1) (by decide +kernel : decode prog_10_method_79_code 15 = .ok (.lconst 1, 1)) (by decide) ?_
    refine g_callSI [.long (Int32.toInt64 y), .long (lN 0), .long (lN 1)] (by decide +kernel : decode prog_10_method_79_code 16 = .ok (.invokestatic 57, 3)) lk_Md_57 (m_isInN ΛM (mS σ f b) y 0 1) rfl rfl (Nat.le_of_ble_eq_true rfl) (Nat.le_of_ble_eq_true rfl) (fun r16 s16 h16 => ?_)
    rcases h16 with ⟨rfl, ⟨rfl, w, ha16, hb16, rfl⟩ | ⟨rfl, n16⟩⟩
    · refine g_if_eqN (tgt := 43) (by decide +kernel : decode prog_10_method_79_code 19 = .ok (.ifCond .eq 24, 3)) (by decide) (by decide) (fun h => False.elim (by revert h; decide)) (fun _ => ?_)
      refine g_iload_n (by decide +kernel : decode prog_10_method_79_code 22 = .ok (.iload_n 1, 1)) rfl ?_
      refine g_i2lN (by decide +kernel : decode prog_10_method_79_code 23 = .ok (.i2l, 1)) (by omega) ?_
      refine g_aload_n (by decide +kernel : decode prog_10_method_79_code 24 = .ok (.aload_n 0, 1)) rfl ?_
      refine g_getR (by decide +kernel : decode prog_10_method_79_code 25 = .ok (.getfield 7, 3)) fl_Md_7 rfl rfl ?_
      refine g_bipush (v := nI 6) (by decide +kernel : decode prog_10_method_79_code 28 = .ok (.bipush 6, 2)) (by decide) ?_
      refine g_iaload (a := 6) (by decide +kernel : decode prog_10_method_79_code 30 = .ok (.iaload, 1)) rfl rfl (by decide) (by decide) ?_
      refine g_top (w := nI (tn (f 6))) ((hI.2.2.1 3 (by decide)).e.1) ?_
      refine g_i2lN (by decide +kernel : decode prog_10_method_79_code 31 = .ok (.i2l, 1)) (by omega) ?_
      refine g_lmul (by decide +kernel : decode prog_10_method_79_code 32 = .ok (.lmul, 1)) ?_
      refine g_topL (w := lN (n * tn (f 6))) (lN_mul _ _) ?_
      refine g_ldc2 (v := lN 100) (by decide +kernel : decode prog_10_method_79_code 33 = .ok (.ldc2_w 252, 3)) kc_Md_252 ?_
      refine g_iload_n (by decide +kernel : decode prog_10_method_79_code 36 = .ok (.iload_n 2, 1)) rfl ?_
      refine g_callSL [.long (lN (n * tn (f 6))), .long (lN 100), .int (nI w)] (by decide +kernel : decode prog_10_method_79_code 37 = .ok (.invokestatic 254, 3)) lk_Md_254 (m_partOf ΛM (mS σ f b) (n * tn (f 6)) (100) w (by have h9 := hml n (by omega); omega) (by decide) (by decide) (by omega)) rfl rfl (Nat.le_of_ble_eq_true rfl) (Nat.le_of_ble_eq_true rfl) (fun r37 s37 h37 => ?_)
      obtain ⟨rfl, rfl⟩ := h37
      refine g_goto (tgt := 46) (by decide +kernel : decode prog_10_method_79_code 40 = .ok (.goto 6, 3)) (by decide) ?_
      exact g_lret hR (by decide +kernel : decode prog_10_method_79_code 46 = .ok (.lreturn, 1)) rfl ⟨_, rfl, ⟨by simp only [hopeV, rg_of ha6 hb6, rg_of ha16 hb16], rfl⟩⟩
    · refine g_if_eqN (tgt := 43) (by decide +kernel : decode prog_10_method_79_code 19 = .ok (.ifCond .eq 24, 3)) (by decide) (by decide) (fun _ => ?_) (fun h => False.elim (by revert h; decide))
      refine g_ldc2 (v := -1) (by decide +kernel : decode prog_10_method_79_code 43 = .ok (.ldc2_w 246, 3)) kc_Md_246 ?_
      exact g_lret hR (by decide +kernel : decode prog_10_method_79_code 46 = .ok (.lreturn, 1)) rfl ⟨_, rfl, ⟨by simp only [hopeV, rg_of ha6 hb6, rg_none n16], rfl⟩⟩
  · refine g_if_eqN (tgt := 43) (by decide +kernel : decode prog_10_method_79_code 9 = .ok (.ifCond .eq 34, 3)) (by decide) (by decide) (fun _ => ?_) (fun h => False.elim (by revert h; decide))
    refine g_ldc2 (v := -1) (by decide +kernel : decode prog_10_method_79_code 43 = .ok (.ldc2_w 246, 3)) kc_Md_246 ?_
    exact g_lret hR (by decide +kernel : decode prog_10_method_79_code 46 = .ok (.lreturn, 1)) rfl ⟨_, rfl, ⟨by simp only [hopeV, rg_none n6], rfl⟩⟩
