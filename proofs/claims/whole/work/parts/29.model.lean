/-! THE REFERENCE: the tape and its tokens -/
def by8 (x : Int64) (k : Nat) : Int32 := Int64.toInt32 ((x >>> (Int32.toInt64 (nI (8 * k)) &&& 63)) &&& lN 255)
/-- n bytes of x behind t -/
def tpN (R : Row) (x : Int64) (t : Nat) : Nat → Row
  | 0 => R
  | k + 1 => upd (tpN R x t k) (t + k) (by8 x k)
def fdS (σ : Store) (x : Int64) (t k : Nat) : Store := s_up (s_row σ 5 (tpN (σ 5) x t k)) 0 6 (nI (t + k))
theorem fdS_0 {σ : Store} {x : Int64} {t : Nat} (h : σ 0 6 = nI t) : fdS σ x t 0 = σ := by
  funext a
  unfold fdS s_up s_row
  by_cases h0 : a = 0
  · subst h0
    simp only [↓reduceIte, Nat.add_zero, ← h]
    show upd (σ 0) 6 (σ 0 6) = σ 0
    exact upd_self
  · by_cases h5 : a = 5
    · subst h5; simp [tpN]
    · simp [h0, h5]
theorem fdS_s (σ : Store) (x : Int64) (t k : Nat) : s_up (s_up (fdS σ x t k) 5 (t + k) (by8 x k)) 0 6 (nI (t + k + 1)) = fdS σ x t (k + 1) := by
  funext a
  unfold fdS s_up s_row
  by_cases h0 : a = 0
  · subst h0
    simp [upd_upd, Nat.add_assoc]
  · by_cases h5 : a = 5
    · subst h5; simp [tpN]
    · simp [h0, h5]
def feedV (t : Nat) (y : Int32) : Int32 := match rg 1 8 y with
  | none => -1
  | some n => if t + n ≤ 200 then nI (t + n) else -2
def feedS (σ : Store) (t : Nat) (x : Int64) (y : Int32) : Store := match rg 1 8 y with
  | none => σ
  | some n => if t + n ≤ 200 then fdS σ x t n else σ
set_option maxRecDepth 20000 in
theorem q_feed_lp {X : CX} {σ : Store} {f b : Row} {x : Int64} {t n : Nat} (hn : t + n ≤ 200) : ∀ (b9 k : Nat), k ≤ n → n - k < b9 → Rt (ΛM, mt_Md_feed, 1) (PF (nI (t + n)) (mS (fdS σ x t n) f b)) X → G (ΛM, mt_Md_feed, 1) X (mS (fdS σ x t k) f b) [some (.ref 0), some (.long x), none, some (.int (nI n)), some (.int (nI k))] [] 32 := by
  intro b9
  induction b9 with
  | zero => intro k hk hb hR; omega
  | succ b9 ih =>
  intro k hk hb hR
  refine g_iload (by decide +kernel : decode prog_10_method_13_code 32 = .ok (.iload 4, 2)) rfl ?_
  refine g_iload_n (by decide +kernel : decode prog_10_method_13_code 34 = .ok (.iload_n 3, 1)) rfl ?_
  refine g_icmp_geN (tgt := 75) (by decide +kernel : decode prog_10_method_13_code 35 = .ok (.if_icmp .ge 40, 3)) (by decide) (by omega) (by omega) (fun h35 => ?_) (fun h35 => ?_)
  · refine g_aload_n (by decide +kernel : decode prog_10_method_13_code 75 = .ok (.aload_n 0, 1)) rfl ?_
    refine g_getI (by decide +kernel : decode prog_10_method_13_code 76 = .ok (.getfield 61, 3)) fl_Md_61.get rfl rfl ?_
    refine g_top (w := nI (t + k)) (rfl) ?_
    obtain rfl : k = n := by omega
    exact g_iret hR (by decide +kernel : decode prog_10_method_13_code 79 = .ok (.ireturn, 1)) rfl ⟨_, rfl, rfl, rfl⟩
  · refine g_aload_n (by decide +kernel : decode prog_10_method_13_code 38 = .ok (.aload_n 0, 1)) rfl ?_
    refine g_getR (by decide +kernel : decode prog_10_method_13_code 39 = .ok (.getfield 22, 3)) fl_Md_22 rfl rfl ?_
    refine g_aload_n (by decide +kernel : decode prog_10_method_13_code 42 = .ok (.aload_n 0, 1)) rfl ?_
    refine g_getI (by decide +kernel : decode prog_10_method_13_code 43 = .ok (.getfield 61, 3)) fl_Md_61.get rfl rfl ?_
    refine g_top (w := nI (t + k)) (rfl) ?_
    refine g_lload_n (by decide +kernel : decode prog_10_method_13_code 46 = .ok (.lload_n 1, 1)) rfl ?_
    refine g_bipush (v := nI 8) (by decide +kernel : decode prog_10_method_13_code 47 = .ok (.bipush 8, 2)) (by decide) ?_
    refine g_iload (by decide +kernel : decode prog_10_method_13_code 49 = .ok (.iload 4, 2)) rfl ?_
    refine g_imulN (by decide +kernel : decode prog_10_method_13_code 51 = .ok (.imul, 1)) ?_
    refine g_lshr (by decide +kernel : decode prog_10_method_13_code 52 = .ok (.lshr, 1)) ?_
    refine g_ldc2 (v := lN 255) (by decide +kernel : decode prog_10_method_13_code 53 = .ok (.ldc2_w 65, 3)) kc_Md_65 ?_
    refine g_land (by decide +kernel : decode prog_10_method_13_code 56 = .ok (.land, 1)) ?_
    refine g_l2i (by decide +kernel : decode prog_10_method_13_code 57 = .ok (.l2i, 1)) ?_
    refine g_iastore (a := t + k) (by decide +kernel : decode prog_10_method_13_code 58 = .ok (.iastore, 1)) rfl rfl (by omega) (by decide) ?_
    refine g_sto (mS_uk _ _ _ _ _ (by decide) (by decide)) ?_
    refine g_aload_n (by decide +kernel : decode prog_10_method_13_code 59 = .ok (.aload_n 0, 1)) rfl ?_
    refine g_dup (by decide +kernel : decode prog_10_method_13_code 60 = .ok (.dup, 1)) rfl ?_
    refine g_getI (by decide +kernel : decode prog_10_method_13_code 61 = .ok (.getfield 61, 3)) fl_Md_61.get rfl rfl ?_
    refine g_top (w := nI (t + k)) (rfl) ?_
    refine g_iconst (v := nI 1) (by decide +kernel : decode prog_10_method_13_code 64 = .ok (.iconst 1, 1)) (by decide) ?_
    refine g_iaddN (by decide +kernel : decode prog_10_method_13_code 65 = .ok (.iadd, 1)) ?_
    refine g_putI (by decide +kernel : decode prog_10_method_13_code 66 = .ok (.putfield 61, 3)) fl_Md_61 rfl rfl ?_
    refine g_sto (mS_uk _ _ _ _ _ (by decide) (by decide)) ?_
    refine g_iincN (n := 1) (L' := [some (.ref 0), some (.long x), none, some (.int (nI n)), some (.int (nI (k + 1)))]) (by decide +kernel : decode prog_10_method_13_code 69 = .ok (.iinc 4 1, 3)) rfl (by decide) (Nat.le_of_ble_eq_true rfl) rfl ?_
    refine g_goto (tgt := 32) (by decide +kernel : decode prog_10_method_13_code 72 = .ok (.goto (-40), 3)) (by decide) ?_
    refine g_sto (show _ = mS (fdS σ x t (k + 1)) f b from congrArg (fun z => mS z f b) (fdS_s σ x t k)) ?_
    exact ih (k + 1) (by omega) (by omega) hR
set_option maxRecDepth 20000 in
theorem q_feed (σ : Store) (f b : Row) (x : Int64) (y : Int32) {t : Nat} (ht : σ 0 6 = nI t) (h200 : t ≤ 200) : Ct ΛM mt_Md_feed 1 [.ref 0, .long x, .int y] (mS σ f b) (PF (feedV t y) (mS (feedS σ t x y) f b)) := by
  refine Ct.of (by decide) (Nat.le_of_ble_eq_true rfl) (fun X hR => ?_)
  show G (ΛM, mt_Md_feed, 1) X (mS σ f b) [some (.ref 0), some (.long x), none, some (.int y), none] [] 0
  refine g_iload_n (by decide +kernel : decode prog_10_method_13_code 0 = .ok (.iload_n 3, 1)) rfl ?_
  refine g_i2l (by decide +kernel : decode prog_10_method_13_code 1 = .ok (.i2l, 1)) ?_
  refine g_lconst (v := lN 1) (by decide +kernel : decode prog_10_method_13_code 2 = .ok (.lconst 1, 1)) (by decide) ?_
  refine g_ldc2 (v := lN 8) (by decide +kernel : decode prog_10_method_13_code 3 = .ok (.ldc2_w 55, 3)) kc_Md_55 ?_
  refine g_callSI [.long (Int32.toInt64 y), .long (lN 1), .long (lN 8)] (by decide +kernel : decode prog_10_method_13_code 6 = .ok (.invokestatic 57, 3)) lk_Md_57 (m_isInN ΛM (mS σ f b) y 1 8) rfl rfl (Nat.le_of_ble_eq_true rfl) (Nat.le_of_ble_eq_true rfl) (fun r6 s6 h6 => ?_)
  rcases h6 with ⟨rfl, ⟨rfl, n, ha6, hb6, rfl⟩ | ⟨rfl, n6⟩⟩
  · refine g_if_neN (tgt := 14) (by decide +kernel : decode prog_10_method_13_code 9 = .ok (.ifCond .ne 5, 3)) (by decide) (by decide) (fun _ => ?_) (fun h => False.elim (by revert h; decide))
    refine g_aload_n (by decide +kernel : decode prog_10_method_13_code 14 = .ok (.aload_n 0, 1)) rfl ?_
    refine g_getI (by decide +kernel : decode prog_10_method_13_code 15 = .ok (.getfield 61, 3)) fl_Md_61.get rfl rfl ?_
    refine g_top (w := nI t) (ht) ?_
    refine g_iload_n (by decide +kernel : decode prog_10_method_13_code 18 = .ok (.iload_n 3, 1)) rfl ?_
    refine g_iaddN (by decide +kernel : decode prog_10_method_13_code 19 = .ok (.iadd, 1)) ?_
    refine g_sipush (v := nI 200) (by decide +kernel : decode prog_10_method_13_code 20 = .ok (.sipush 200, 3)) (by decide) ?_
    refine g_icmp_leN (tgt := 29) (by decide +kernel : decode prog_10_method_13_code 23 = .ok (.if_icmp .le 6, 3)) (by decide) (by omega) (by decide) (fun h23 => ?_) (fun h23 => ?_)
    · refine g_iconst (v := nI 0) (by decide +kernel : decode prog_10_method_13_code 29 = .ok (.iconst 0, 1)) (by decide) ?_
      refine g_istore (L' := [some (.ref 0), some (.long x), none, some (.int (nI n)), some (.int (nI 0))]) (by decide +kernel : decode prog_10_method_13_code 30 = .ok (.istore 4, 2)) (Nat.le_of_ble_eq_true rfl) rfl ?_
      have e9 : fdS σ x t 0 = σ := fdS_0 ht
      have e8 : feedV t (nI n) = nI (t + n) := by simp only [feedV, rg_of ha6 hb6, if_pos h23]
      have e7 : feedS σ t x (nI n) = fdS σ x t n := by simp only [feedS, rg_of ha6 hb6, if_pos h23]
      rw [e8, e7] at hR
      refine g_sto (show _ = mS (fdS σ x t 0) f b by rw [e9]) ?_
      exact q_feed_lp h23 (n + 1) 0 (Nat.zero_le _) (by omega) hR
    · refine g_bipush (v := (-2)) (by decide +kernel : decode prog_10_method_13_code 26 = .ok (.bipush (-2), 2)) (by decide) ?_
      exact g_iret hR (by decide +kernel : decode prog_10_method_13_code 28 = .ok (.ireturn, 1)) rfl ⟨_, rfl, ⟨by simp only [feedV, rg_of ha6 hb6, if_neg h23], by simp only [feedS, rg_of ha6 hb6, if_neg h23]⟩⟩
  · refine g_if_neN (tgt := 14) (by decide +kernel : decode prog_10_method_13_code 9 = .ok (.ifCond .ne 5, 3)) (by decide) (by decide) (fun h => False.elim (by revert h; decide)) (fun _ => ?_)
    refine g_iconst (v := (-1)) (by decide +kernel : decode prog_10_method_13_code 12 = .ok (.iconst (-1), 1)) (by decide) ?_
    exact g_iret hR (by decide +kernel : decode prog_10_method_13_code 13 = .ok (.ireturn, 1)) rfl ⟨_, rfl, ⟨by simp only [feedV, rg_none n6], by simp only [feedS, rg_none n6]⟩⟩
/-- the tape holds t bytes -/
def TP (σ : Store) (t : Nat) : Prop := σ 0 6 = nI t ∧ t ≤ 200 ∧ ∀ i, i < t → Rng (σ 5 i) 255
def Bt (σ : Store) : Nat → Nat := fun i => tn (σ 5 i)
def skF (B : Nat → Nat) (t : Nat) : Nat → Nat → Nat
  | 0, p => p
  | k + 1, p => if p < t ∧ B p = 32 then skF B t k (p + 1) else p
def sk (B : Nat → Nat) (t p : Nat) : Nat := skF B t (t - p) p
theorem sk_s {B : Nat → Nat} {t p : Nat} (h : p < t) (h2 : B p = 32) : sk B t p = sk B t (p + 1) := by
  unfold sk
  rw [show t - p = (t - (p + 1)) + 1 by omega]
  show (if p < t ∧ B p = 32 then _ else _) = _
  rw [if_pos ⟨h, h2⟩]
theorem sk_e {B : Nat → Nat} {t p : Nat} (h : ¬ (p < t ∧ B p = 32)) : sk B t p = p := by
  unfold sk
  cases t - p with
  | zero => rfl
  | succ k => exact if_neg h
theorem skF_b {B : Nat → Nat} {t : Nat} : ∀ k p, p ≤ t → p ≤ skF B t k p ∧ skF B t k p ≤ t := by
  intro k
  induction k with
  | zero => intro p h; exact ⟨Nat.le_refl _, h⟩
  | succ k ih =>
    intro p h
    unfold skF
    split
    · have := ih (p + 1) (by omega); omega
    · omega
theorem sk_b {B : Nat → Nat} {t p : Nat} (h : p ≤ t) : p ≤ sk B t p ∧ sk B t p ≤ t := skF_b _ _ h
def cl (c : Nat) : Nat := if 97 ≤ c ∧ c ≤ 122 then 1 else if 48 ≤ c ∧ c ≤ 57 then 2 else 3
theorem cl_1 {c : Nat} : cl c = 1 ↔ 97 ≤ c ∧ c ≤ 122 := by
  unfold cl
  split
  · rename_i h; simp [h]
  · rename_i h
    split <;> simp [h]
theorem cl_2 {c : Nat} : cl c = 2 ↔ 48 ≤ c ∧ c ≤ 57 := by
  unfold cl
  split
  · rename_i h; simp; omega
  · split
    · rename_i h; simp [h]
    · rename_i h; simp; omega
def kd (B : Nat → Nat) (t q : Nat) : Nat := if q < t then cl (B q) else 0
def ruF (B : Nat → Nat) (t s : Nat) : Nat → Nat → Nat
  | 0, p => p
  | k + 1, p => if p < t ∧ cl (B p) = s then ruF B t s k (p + 1) else p
def ru (B : Nat → Nat) (t s p : Nat) : Nat := ruF B t s (t - p) p
theorem ru_s {B : Nat → Nat} {t s p : Nat} (h : p < t) (h2 : cl (B p) = s) : ru B t s p = ru B t s (p + 1) := by
  unfold ru
  rw [show t - p = (t - (p + 1)) + 1 by omega]
  show (if p < t ∧ cl (B p) = s then _ else _) = _
  rw [if_pos ⟨h, h2⟩]
theorem ru_e {B : Nat → Nat} {t s p : Nat} (h : ¬ (p < t ∧ cl (B p) = s)) : ru B t s p = p := by
  unfold ru
  cases t - p with
  | zero => rfl
  | succ k => exact if_neg h
theorem ruF_b {B : Nat → Nat} {t s : Nat} : ∀ k p, p ≤ t → p ≤ ruF B t s k p ∧ ruF B t s k p ≤ t := by
  intro k
  induction k with
  | zero => intro p h; exact ⟨Nat.le_refl _, h⟩
  | succ k ih =>
    intro p h
    unfold ruF
    split
    · have := ih (p + 1) (by omega); omega
    · omega
theorem ru_b {B : Nat → Nat} {t s p : Nat} (h : p ≤ t) : p ≤ ru B t s p ∧ ru B t s p ≤ t := ruF_b _ _ h
def en (B : Nat → Nat) (t q : Nat) : Nat := if kd B t q = 0 then q else if kd B t q = 3 then q + 1 else ru B t (kd B t q) q
theorem kd_0 {B : Nat → Nat} {t q : Nat} : kd B t q = 0 ↔ ¬ q < t := by
  unfold kd cl
  split
  · rename_i h; simp [h]; split <;> (try split) <;> decide
  · rename_i h; simp [h]
theorem kd_lt {B : Nat → Nat} {t q : Nat} (h : kd B t q ≠ 0) : q < t := by
  by_cases h1 : q < t
  · exact h1
  · exact absurd (kd_0.mpr h1) h
theorem kd_of {B : Nat → Nat} {t q : Nat} (h : q < t) : kd B t q = cl (B q) := if_pos h
theorem kd_le (B : Nat → Nat) (t q : Nat) : kd B t q ≤ 3 := by
  unfold kd cl
  split
  · split
    · decide
    · split <;> decide
  · decide
theorem en_b {B : Nat → Nat} {t q : Nat} (h : q ≤ t) : q ≤ en B t q ∧ en B t q ≤ t ∧ (kd B t q ≠ 0 → q < en B t q) := by
  unfold en
  split
  · rename_i h0; exact ⟨Nat.le_refl _, h, fun z => absurd h0 z⟩
  · rename_i h0
    have h1 := kd_lt h0
    split
    · omega
    · have e := ru_s (B := B) (t := t) (s := kd B t q) h1 (kd_of h1).symm
      have := ru_b (B := B) (t := t) (s := kd B t q) (p := q + 1) (by omega)
      rw [e]; omega
/-- the number that stands at p, as far as it matters -/
def vlF (B : Nat → Nat) (t : Nat) : Nat → Nat → Nat → Nat
  | 0, _, v => v
  | k + 1, p, v => if p < t ∧ cl (B p) = 2 then vlF B t k (p + 1) (if 999 < v then v else 10 * v + B p - 48) else v
def vl (B : Nat → Nat) (t q : Nat) : Nat := if kd B t q = 2 then vlF B t (t - q) q 0 else 0
theorem vlF_s {B : Nat → Nat} {t p v : Nat} (h : p < t) (h2 : cl (B p) = 2) : vlF B t (t - p) p v = vlF B t (t - (p + 1)) (p + 1) (if 999 < v then v else 10 * v + B p - 48) := by
  rw [show t - p = (t - (p + 1)) + 1 by omega]
  show (if p < t ∧ cl (B p) = 2 then _ else _) = _
  rw [if_pos ⟨h, h2⟩]
theorem vlF_e {B : Nat → Nat} {t p v : Nat} (h : ¬ (p < t ∧ cl (B p) = 2)) : vlF B t (t - p) p v = v := by
  cases t - p with
  | zero => rfl
  | succ k => exact if_neg h
theorem vlF_b {B : Nat → Nat} {t : Nat} : ∀ k p v, v ≤ 10000 → vlF B t k p v ≤ 10000 := by
  intro k
  induction k with
  | zero => intro p v h; exact h
  | succ k ih =>
    intro p v h
    unfold vlF
    split
    · rename_i h1
      have := cl_2.mp h1.2
      refine ih _ _ ?_
      split <;> omega
    · exact h
theorem vl_b {B : Nat → Nat} {t q : Nat} : vl B t q ≤ 10000 := by
  unfold vl
  split
  · exact vlF_b _ _ _ (by decide)
  · decide
def nx (B : Nat → Nat) (t q : Nat) : Nat := sk B t (en B t q)
theorem nx_b {B : Nat → Nat} {t q : Nat} (h : q ≤ t) : q ≤ nx B t q ∧ nx B t q ≤ t ∧ (kd B t q ≠ 0 → q < nx B t q) := by
  have h1 := en_b (B := B) h
  have h2 := sk_b (B := B) h1.2.1
  unfold nx
  exact ⟨by omega, by omega, fun z => by have := h1.2.2 z; omega⟩
/-- the token's places in the reference -/
def kR (R : Row) (k q e v w : Int32) : Row := fun j => if j = 7 then k else if j = 8 then q else if j = 9 then e else if j = 10 then v else if j = 11 then w else R j
def kS (σ : Store) (k q e v w : Int32) : Store := s_row σ 0 (kR (σ 0) k q e v w)
abbrev tS (σ : Store) (t : Nat) (w : Int32) (q : Nat) : Store := kS σ (nI (kd (Bt σ) t q)) (nI q) (nI (en (Bt σ) t q)) (nI (vl (Bt σ) t q)) w
theorem kS_u7 (σ : Store) (f b : Row) (k q e v w z : Int32) : s_up (mS (kS σ k q e v w) f b) 0 7 z = mS (kS σ z q e v w) f b := by
  funext a
  unfold mS kS s_up s_row
  by_cases h0 : a = 0
  · subst h0
    simp only [↓reduceIte, show ¬ (0 = 6) by decide, show ¬ (0 = 1) by decide]
    funext j
    unfold upd kR
    by_cases hj : j = 7
    · subst hj; simp
    · simp [hj]
  · simp [h0]
theorem kS_u8 (σ : Store) (f b : Row) (k q e v w z : Int32) : s_up (mS (kS σ k q e v w) f b) 0 8 z = mS (kS σ k z e v w) f b := by
  funext a
  unfold mS kS s_up s_row
  by_cases h0 : a = 0
  · subst h0
    simp only [↓reduceIte, show ¬ (0 = 6) by decide, show ¬ (0 = 1) by decide]
    funext j
    unfold upd kR
    by_cases hj : j = 8
    · subst hj; simp
    · simp [hj]
  · simp [h0]
theorem kS_u9 (σ : Store) (f b : Row) (k q e v w z : Int32) : s_up (mS (kS σ k q e v w) f b) 0 9 z = mS (kS σ k q z v w) f b := by
  funext a
  unfold mS kS s_up s_row
  by_cases h0 : a = 0
  · subst h0
    simp only [↓reduceIte, show ¬ (0 = 6) by decide, show ¬ (0 = 1) by decide]
    funext j
    unfold upd kR
    by_cases hj : j = 9
    · subst hj; simp
    · simp [hj]
  · simp [h0]
theorem kS_u10 (σ : Store) (f b : Row) (k q e v w z : Int32) : s_up (mS (kS σ k q e v w) f b) 0 10 z = mS (kS σ k q e z w) f b := by
  funext a
  unfold mS kS s_up s_row
  by_cases h0 : a = 0
  · subst h0
    simp only [↓reduceIte, show ¬ (0 = 6) by decide, show ¬ (0 = 1) by decide]
    funext j
    unfold upd kR
    by_cases hj : j = 10
    · subst hj; simp
    · simp [hj]
  · simp [h0]
theorem kS_u11 (σ : Store) (f b : Row) (k q e v w z : Int32) : s_up (mS (kS σ k q e v w) f b) 0 11 z = mS (kS σ k q e v z) f b := by
  funext a
  unfold mS kS s_up s_row
  by_cases h0 : a = 0
  · subst h0
    simp only [↓reduceIte, show ¬ (0 = 6) by decide, show ¬ (0 = 1) by decide]
    funext j
    unfold upd kR
    by_cases hj : j = 11
    · subst hj; simp
    · simp [hj]
  · simp [h0]
theorem kS_self (σ : Store) : kS σ (σ 0 7) (σ 0 8) (σ 0 9) (σ 0 10) (σ 0 11) = σ := by
  funext a
  unfold kS s_row
  by_cases h0 : a = 0
  · subst h0
    simp only [↓reduceIte]
    funext j
    unfold kR
    repeat' split
    all_goals simp_all
  · simp [h0]
theorem TP.k {σ : Store} {t : Nat} (h : TP σ t) (k q e v w : Int32) (f b : Row) : TP (mS (kS σ k q e v w) f b) t := h
theorem Bt_n {σ : Store} {t i : Nat} (h : TP σ t) (hi : i < t) : σ 5 i = nI (Bt σ i) ∧ Bt σ i ≤ 255 := (h.2.2 i hi).e
theorem Bt_b {σ : Store} {t i : Nat} (h : TP σ t) (hi : i < t) : Bt σ i ≤ 255 := (Bt_n h hi).2
set_option maxRecDepth 20000 in
theorem m_byteAt (σ : Store) (p : Nat) {t : Nat} (hT : TP σ t) (hp : p < 2 ^ 31) : Ct ΛM mt_Md_byteAt 0 [.ref 0, .int (nI p)] σ (PI (fun r σ' => σ' = σ ∧ ((p < t ∧ r = nI (Bt σ p)) ∨ (¬ p < t ∧ r = -1)))) := by
  refine Ct.of (by decide) (Nat.le_of_ble_eq_true rfl) (fun X hR => ?_)
  show G (ΛM, mt_Md_byteAt, 0) X σ [some (.ref 0), some (.int (nI p))] [] 0
  have h200 := hT.2.1
  refine g_iload_n (by decide +kernel : decode prog_10_method_16_code 0 = .ok (.iload_n 1, 1)) rfl ?_
  refine g_aload_n (by decide +kernel : decode prog_10_method_16_code 1 = .ok (.aload_n 0, 1)) rfl ?_
  refine g_getI (by decide +kernel : decode prog_10_method_16_code 2 = .ok (.getfield 61, 3)) fl_Md_61.get rfl rfl ?_
  refine g_top (w := nI t) (hT.1) ?_
  refine g_icmp_geN (tgt := 17) (by decide +kernel : decode prog_10_method_16_code 5 = .ok (.if_icmp .ge 12, 3)) (by decide) (by omega) (by omega) (fun h5 => ?_) (fun h5 => ?_)
  · refine g_iconst (v := (-1)) (by decide +kernel : decode prog_10_method_16_code 17 = .ok (.iconst (-1), 1)) (by decide) ?_
    exact g_iret hR (by decide +kernel : decode prog_10_method_16_code 18 = .ok (.ireturn, 1)) rfl ⟨_, rfl, ⟨rfl, Or.inr ⟨by omega, rfl⟩⟩⟩
  · refine g_aload_n (by decide +kernel : decode prog_10_method_16_code 8 = .ok (.aload_n 0, 1)) rfl ?_
    refine g_getR (by decide +kernel : decode prog_10_method_16_code 9 = .ok (.getfield 22, 3)) fl_Md_22 rfl rfl ?_
    refine g_iload_n (by decide +kernel : decode prog_10_method_16_code 12 = .ok (.iload_n 1, 1)) rfl ?_
    refine g_iaload (a := p) (by decide +kernel : decode prog_10_method_16_code 13 = .ok (.iaload, 1)) rfl rfl (by omega) (by decide) ?_
    refine g_goto (tgt := 18) (by decide +kernel : decode prog_10_method_16_code 14 = .ok (.goto 4, 3)) (by decide) ?_
    exact g_iret hR (by decide +kernel : decode prog_10_method_16_code 18 = .ok (.ireturn, 1)) rfl ⟨_, rfl, ⟨rfl, Or.inl ⟨by omega, (Bt_n hT (by omega)).1⟩⟩⟩
theorem m_by {σ : Store} {t : Nat} (hT : TP σ t) {k q e v w : Int32} {f b : Row} (p : Nat) (hp : p < 2 ^ 31) : Ct ΛM mt_Md_byteAt 0 [.ref 0, .int (nI p)] (mS (kS σ k q e v w) f b) (PI (fun r σ' => σ' = mS (kS σ k q e v w) f b ∧ ((p < t ∧ r = nI (Bt σ p)) ∨ (¬ p < t ∧ r = -1)))) := m_byteAt (mS (kS σ k q e v w) f b) p (TP.k hT _ _ _ _ _ _ _) hp
theorem m_isAlphaN (Λ : Lay) (σ : Store) (c : Nat) (hc : c ≤ 255) : Ct Λ mt_Md_isAlpha 0 [.int (nI c)] σ (PB σ (97 ≤ c ∧ c ≤ 122)) := PB.of (m_isAlpha Λ σ _) ⟨fun h => ⟨(nI_leI (a := 97) (by decide) (by omega)).mp h.1, (nI_leI (b := 122) (by omega) (by decide)).mp h.2⟩, fun h => ⟨(nI_leI (a := 97) (by decide) (by omega)).mpr h.1, (nI_leI (b := 122) (by omega) (by decide)).mpr h.2⟩⟩
theorem m_isDigitN (Λ : Lay) (σ : Store) (c : Nat) (hc : c ≤ 255) : Ct Λ mt_Md_isDigit 0 [.int (nI c)] σ (PB σ (48 ≤ c ∧ c ≤ 57)) := PB.of (m_isDigit Λ σ _) ⟨fun h => ⟨(nI_leI (a := 48) (by decide) (by omega)).mp h.1, (nI_leI (b := 57) (by omega) (by decide)).mp h.2⟩, fun h => ⟨(nI_leI (a := 48) (by decide) (by omega)).mpr h.1, (nI_leI (b := 57) (by omega) (by decide)).mpr h.2⟩⟩
set_option maxRecDepth 20000 in
theorem nt_l1 {X : CX} {σ : Store} {t : Nat} (hT : TP σ t) {f b : Row} {w : Int32} {q : Nat} (hk : kd (Bt σ) t q = 1) : ∀ (b9 p : Nat), p ≤ t → t - p < b9 → ru (Bt σ) t 1 q = ru (Bt σ) t 1 p → Rt (ΛM, mt_Md_nextToken, 1) (PU (mS (tS σ t w (q)) f b)) X → G (ΛM, mt_Md_nextToken, 1) X (mS (kS σ (nI 1) (nI q) (nI p) (nI 0) w) f b) [some (.ref 0), none] [] 91 := by
  have h200 := hT.2.1
  intro b9
  induction b9 with
  | zero => intro p hp hb he hR; omega
  | succ b9 ih =>
  intro p hp hb he hR
  refine g_aload_n (by decide +kernel : decode prog_10_method_17_code 91 = .ok (.aload_n 0, 1)) rfl ?_
  refine g_getI (by decide +kernel : decode prog_10_method_17_code 92 = .ok (.getfield 84, 3)) fl_Md_84.get rfl rfl ?_
  refine g_top (w := nI 1) (rfl) ?_
  refine g_iconst (v := nI 1) (by decide +kernel : decode prog_10_method_17_code 95 = .ok (.iconst 1, 1)) (by decide) ?_
  refine g_icmp_neN (tgt := 126) (by decide +kernel : decode prog_10_method_17_code 96 = .ok (.if_icmp .ne 30, 3)) (by decide) (by decide) (by decide) (fun h => False.elim (by revert h; decide)) (fun _ => ?_)
  refine g_aload_n (by decide +kernel : decode prog_10_method_17_code 99 = .ok (.aload_n 0, 1)) rfl ?_
  refine g_aload_n (by decide +kernel : decode prog_10_method_17_code 100 = .ok (.aload_n 0, 1)) rfl ?_
  refine g_getI (by decide +kernel : decode prog_10_method_17_code 101 = .ok (.getfield 67, 3)) fl_Md_67.get rfl rfl ?_
  refine g_top (w := nI p) (rfl) ?_
  refine g_callVI [.int (nI p)] (by decide +kernel : decode prog_10_method_17_code 104 = .ok (.invokevirtual 73, 3)) lk_Md_73 (m_by hT p (by omega)) rfl rfl rfl rfl (Nat.le_of_ble_eq_true rfl) (Nat.le_of_ble_eq_true rfl) (fun r104 s104 h104 => ?_)
  rcases h104 with ⟨rfl, ⟨b104, rfl⟩ | ⟨b104, rfl⟩⟩
  · have c104 := Bt_b hT b104
    refine g_callSI [.int (nI (Bt σ p))] (by decide +kernel : decode prog_10_method_17_code 107 = .ok (.invokestatic 77, 3)) lk_Md_77 (m_isAlphaN ΛM (mS (kS σ (nI 1) (nI q) (nI p) (nI 0) w) f b) (Bt σ p) (by omega)) rfl rfl (Nat.le_of_ble_eq_true rfl) (Nat.le_of_ble_eq_true rfl) (fun r107 s107 h107 => ?_)
    rcases h107 with ⟨rfl, ⟨rfl, d107⟩ | ⟨rfl, d107⟩⟩
    · refine g_if_eqN (tgt := 126) (by decide +kernel : decode prog_10_method_17_code 110 = .ok (.ifCond .eq 16, 3)) (by decide) (by decide) (fun h => False.elim (by revert h; decide)) (fun _ => ?_)
      refine g_aload_n (by decide +kernel : decode prog_10_method_17_code 113 = .ok (.aload_n 0, 1)) rfl ?_
      refine g_dup (by decide +kernel : decode prog_10_method_17_code 114 = .ok (.dup, 1)) rfl ?_
      refine g_getI (by decide +kernel : decode prog_10_method_17_code 115 = .ok (.getfield 67, 3)) fl_Md_67.get rfl rfl ?_
      refine g_top (w := nI p) (rfl) ?_
      refine g_iconst (v := nI 1) (by decide +kernel : decode prog_10_method_17_code 118 = .ok (.iconst 1, 1)) (by decide) ?_
      refine g_iaddN (by decide +kernel : decode prog_10_method_17_code 119 = .ok (.iadd, 1)) ?_
      refine g_putI (by decide +kernel : decode prog_10_method_17_code 120 = .ok (.putfield 67, 3)) fl_Md_67 rfl rfl ?_
      refine g_sto (kS_u9 _ _ _ _ _ _ _ _ _) ?_
      refine g_goto (tgt := 91) (by decide +kernel : decode prog_10_method_17_code 123 = .ok (.goto (-32), 3)) (by decide) ?_
      exact ih (p + 1) (by omega) (by omega) (he.trans (ru_s b104 (cl_1.mpr d107))) hR
    · refine g_if_eqN (tgt := 126) (by decide +kernel : decode prog_10_method_17_code 110 = .ok (.ifCond .eq 16, 3)) (by decide) (by decide) (fun _ => ?_) (fun h => False.elim (by revert h; decide))
      refine g_aload_n (by decide +kernel : decode prog_10_method_17_code 126 = .ok (.aload_n 0, 1)) rfl ?_
      refine g_getI (by decide +kernel : decode prog_10_method_17_code 127 = .ok (.getfield 84, 3)) fl_Md_84.get rfl rfl ?_
      refine g_top (w := nI 1) (rfl) ?_
      refine g_iconst (v := nI 2) (by decide +kernel : decode prog_10_method_17_code 130 = .ok (.iconst 2, 1)) (by decide) ?_
      refine g_icmp_neN (tgt := 201) (by decide +kernel : decode prog_10_method_17_code 131 = .ok (.if_icmp .ne 70, 3)) (by decide) (by decide) (by decide) (fun _ => ?_) (fun h => False.elim (by revert h; decide))
      refine g_aload_n (by decide +kernel : decode prog_10_method_17_code 201 = .ok (.aload_n 0, 1)) rfl ?_
      refine g_dup (by decide +kernel : decode prog_10_method_17_code 202 = .ok (.dup, 1)) rfl ?_
      refine g_getI (by decide +kernel : decode prog_10_method_17_code 203 = .ok (.getfield 67, 3)) fl_Md_67.get rfl rfl ?_
      refine g_top (w := nI p) (rfl) ?_
      refine g_aload_n (by decide +kernel : decode prog_10_method_17_code 206 = .ok (.aload_n 0, 1)) rfl ?_
      refine g_getI (by decide +kernel : decode prog_10_method_17_code 207 = .ok (.getfield 84, 3)) fl_Md_84.get rfl rfl ?_
      refine g_top (w := nI 1) (rfl) ?_
      refine g_iconst (v := nI 2) (by decide +kernel : decode prog_10_method_17_code 210 = .ok (.iconst 2, 1)) (by decide) ?_
      refine g_icmp_leN (tgt := 218) (by decide +kernel : decode prog_10_method_17_code 211 = .ok (.if_icmp .le 7, 3)) (by decide) (by decide) (by decide) (fun _ => ?_) (fun h => False.elim (by revert h; decide))
      refine g_iconst (v := nI 0) (by decide +kernel : decode prog_10_method_17_code 218 = .ok (.iconst 0, 1)) (by decide) ?_
      refine g_iaddN (by decide +kernel : decode prog_10_method_17_code 219 = .ok (.iadd, 1)) ?_
      refine g_putI (by decide +kernel : decode prog_10_method_17_code 220 = .ok (.putfield 67, 3)) fl_Md_67 rfl rfl ?_
      refine g_sto (kS_u9 _ _ _ _ _ _ _ _ _) ?_
      refine g_sto (show _ = mS (tS σ t w q) f b from ?_) (g_vret hR (by decide +kernel : decode prog_10_method_17_code 223 = .ok (.return_, 1)) rfl ⟨rfl, rfl⟩)
      have e1 : ru (Bt σ) t 1 p = p := ru_e (fun z => by first | exact b104 z.1 | exact d107 (cl_1.mp z.2))
      have e2 : en (Bt σ) t q = p := by unfold en; rw [hk, if_neg (by decide), if_neg (by decide), he, e1]
      have e3 : vl (Bt σ) t q = 0 := by unfold vl; rw [hk, if_neg (by decide)]
      unfold tS
      rw [hk, e2, e3, Nat.add_zero]
  · refine g_callSI [.int (-1)] (by decide +kernel : decode prog_10_method_17_code 107 = .ok (.invokestatic 77, 3)) lk_Md_77 (m_isAlpha ΛM (mS (kS σ (nI 1) (nI q) (nI p) (nI 0) w) f b) (-1)) rfl rfl (Nat.le_of_ble_eq_true rfl) (Nat.le_of_ble_eq_true rfl) (fun r107 s107 h107 => ?_)
    obtain ⟨rfl, h107⟩ := h107
    rcases h107 with ⟨_, z⟩ | ⟨rfl, _⟩
    · exact absurd z.1 (by decide)
    refine g_if_eqN (tgt := 126) (by decide +kernel : decode prog_10_method_17_code 110 = .ok (.ifCond .eq 16, 3)) (by decide) (by decide) (fun _ => ?_) (fun h => False.elim (by revert h; decide))
    refine g_aload_n (by decide +kernel : decode prog_10_method_17_code 126 = .ok (.aload_n 0, 1)) rfl ?_
    refine g_getI (by decide +kernel : decode prog_10_method_17_code 127 = .ok (.getfield 84, 3)) fl_Md_84.get rfl rfl ?_
    refine g_top (w := nI 1) (rfl) ?_
    refine g_iconst (v := nI 2) (by decide +kernel : decode prog_10_method_17_code 130 = .ok (.iconst 2, 1)) (by decide) ?_
    refine g_icmp_neN (tgt := 201) (by decide +kernel : decode prog_10_method_17_code 131 = .ok (.if_icmp .ne 70, 3)) (by decide) (by decide) (by decide) (fun _ => ?_) (fun h => False.elim (by revert h; decide))
    refine g_aload_n (by decide +kernel : decode prog_10_method_17_code 201 = .ok (.aload_n 0, 1)) rfl ?_
    refine g_dup (by decide +kernel : decode prog_10_method_17_code 202 = .ok (.dup, 1)) rfl ?_
    refine g_getI (by decide +kernel : decode prog_10_method_17_code 203 = .ok (.getfield 67, 3)) fl_Md_67.get rfl rfl ?_
    refine g_top (w := nI p) (rfl) ?_
    refine g_aload_n (by decide +kernel : decode prog_10_method_17_code 206 = .ok (.aload_n 0, 1)) rfl ?_
    refine g_getI (by decide +kernel : decode prog_10_method_17_code 207 = .ok (.getfield 84, 3)) fl_Md_84.get rfl rfl ?_
    refine g_top (w := nI 1) (rfl) ?_
    refine g_iconst (v := nI 2) (by decide +kernel : decode prog_10_method_17_code 210 = .ok (.iconst 2, 1)) (by decide) ?_
    refine g_icmp_leN (tgt := 218) (by decide +kernel : decode prog_10_method_17_code 211 = .ok (.if_icmp .le 7, 3)) (by decide) (by decide) (by decide) (fun _ => ?_) (fun h => False.elim (by revert h; decide))
    refine g_iconst (v := nI 0) (by decide +kernel : decode prog_10_method_17_code 218 = .ok (.iconst 0, 1)) (by decide) ?_
    refine g_iaddN (by decide +kernel : decode prog_10_method_17_code 219 = .ok (.iadd, 1)) ?_
    refine g_putI (by decide +kernel : decode prog_10_method_17_code 220 = .ok (.putfield 67, 3)) fl_Md_67 rfl rfl ?_
    refine g_sto (kS_u9 _ _ _ _ _ _ _ _ _) ?_
    refine g_sto (show _ = mS (tS σ t w q) f b from ?_) (g_vret hR (by decide +kernel : decode prog_10_method_17_code 223 = .ok (.return_, 1)) rfl ⟨rfl, rfl⟩)
    have e1 : ru (Bt σ) t 1 p = p := ru_e (fun z => by first | exact b104 z.1 | exact d107 (cl_1.mp z.2))
    have e2 : en (Bt σ) t q = p := by unfold en; rw [hk, if_neg (by decide), if_neg (by decide), he, e1]
    have e3 : vl (Bt σ) t q = 0 := by unfold vl; rw [hk, if_neg (by decide)]
    unfold tS
    rw [hk, e2, e3, Nat.add_zero]
set_option maxRecDepth 20000 in
theorem nt_l2 {X : CX} {σ : Store} {t : Nat} (hT : TP σ t) {f b : Row} {w : Int32} {q : Nat} (hk : kd (Bt σ) t q = 2) : ∀ (b9 p v : Nat), p ≤ t → t - p < b9 → v ≤ 10000 → ru (Bt σ) t 2 q = ru (Bt σ) t 2 p → vlF (Bt σ) t (t - q) q 0 = vlF (Bt σ) t (t - p) p v → Rt (ΛM, mt_Md_nextToken, 1) (PU (mS (tS σ t w (q)) f b)) X → G (ΛM, mt_Md_nextToken, 1) X (mS (kS σ (nI 2) (nI q) (nI p) (nI v) w) f b) [some (.ref 0), none] [] 126 := by
  have h200 := hT.2.1
  intro b9
  induction b9 with
  | zero => intro p v hp hb hv he hf hR; omega
  | succ b9 ih =>
  intro p v hp hb hv he hf hR
  refine g_aload_n (by decide +kernel : decode prog_10_method_17_code 126 = .ok (.aload_n 0, 1)) rfl ?_
  refine g_getI (by decide +kernel : decode prog_10_method_17_code 127 = .ok (.getfield 84, 3)) fl_Md_84.get rfl rfl ?_
  refine g_top (w := nI 2) (rfl) ?_
  refine g_iconst (v := nI 2) (by decide +kernel : decode prog_10_method_17_code 130 = .ok (.iconst 2, 1)) (by decide) ?_
  refine g_icmp_neN (tgt := 201) (by decide +kernel : decode prog_10_method_17_code 131 = .ok (.if_icmp .ne 70, 3)) (by decide) (by decide) (by decide) (fun h => False.elim (by revert h; decide)) (fun _ => ?_)
  refine g_aload_n (by decide +kernel : decode prog_10_method_17_code 134 = .ok (.aload_n 0, 1)) rfl ?_
  refine g_aload_n (by decide +kernel : decode prog_10_method_17_code 135 = .ok (.aload_n 0, 1)) rfl ?_
  refine g_getI (by decide +kernel : decode prog_10_method_17_code 136 = .ok (.getfield 67, 3)) fl_Md_67.get rfl rfl ?_
  refine g_top (w := nI p) (rfl) ?_
  refine g_callVI [.int (nI p)] (by decide +kernel : decode prog_10_method_17_code 139 = .ok (.invokevirtual 73, 3)) lk_Md_73 (m_by hT p (by omega)) rfl rfl rfl rfl (Nat.le_of_ble_eq_true rfl) (Nat.le_of_ble_eq_true rfl) (fun r139 s139 h139 => ?_)
  rcases h139 with ⟨rfl, ⟨b139, rfl⟩ | ⟨b139, rfl⟩⟩
  · have c139 := Bt_b hT b139
    refine g_callSI [.int (nI (Bt σ p))] (by decide +kernel : decode prog_10_method_17_code 142 = .ok (.invokestatic 81, 3)) lk_Md_81 (m_isDigitN ΛM (mS (kS σ (nI 2) (nI q) (nI p) (nI v) w) f b) (Bt σ p) (by omega)) rfl rfl (Nat.le_of_ble_eq_true rfl) (Nat.le_of_ble_eq_true rfl) (fun r142 s142 h142 => ?_)
    rcases h142 with ⟨rfl, ⟨rfl, d142⟩ | ⟨rfl, d142⟩⟩
    · refine g_if_eqN (tgt := 201) (by decide +kernel : decode prog_10_method_17_code 145 = .ok (.ifCond .eq 56, 3)) (by decide) (by decide) (fun h => False.elim (by revert h; decide)) (fun _ => ?_)
      refine g_aload_n (by decide +kernel : decode prog_10_method_17_code 148 = .ok (.aload_n 0, 1)) rfl ?_
      refine g_aload_n (by decide +kernel : decode prog_10_method_17_code 149 = .ok (.aload_n 0, 1)) rfl ?_
      refine g_getI (by decide +kernel : decode prog_10_method_17_code 150 = .ok (.getfield 87, 3)) fl_Md_87.get rfl rfl ?_
      refine g_top (w := nI v) (rfl) ?_
      refine g_sipush (v := nI 999) (by decide +kernel : decode prog_10_method_17_code 153 = .ok (.sipush 999, 3)) (by decide) ?_
      refine g_icmp_leN (tgt := 166) (by decide +kernel : decode prog_10_method_17_code 156 = .ok (.if_icmp .le 10, 3)) (by decide) (by omega) (by decide) (fun h156 => ?_) (fun h156 => ?_)
      · refine g_bipush (v := nI 10) (by decide +kernel : decode prog_10_method_17_code 166 = .ok (.bipush 10, 2)) (by decide) ?_
        refine g_aload_n (by decide +kernel : decode prog_10_method_17_code 168 = .ok (.aload_n 0, 1)) rfl ?_
        refine g_getI (by decide +kernel : decode prog_10_method_17_code 169 = .ok (.getfield 87, 3)) fl_Md_87.get rfl rfl ?_
        refine g_top (w := nI v) (rfl) ?_
        refine g_imulN (by decide +kernel : decode prog_10_method_17_code 172 = .ok (.imul, 1)) ?_
        refine g_aload_n (by decide +kernel : decode prog_10_method_17_code 173 = .ok (.aload_n 0, 1)) rfl ?_
        refine g_aload_n (by decide +kernel : decode prog_10_method_17_code 174 = .ok (.aload_n 0, 1)) rfl ?_
        refine g_getI (by decide +kernel : decode prog_10_method_17_code 175 = .ok (.getfield 67, 3)) fl_Md_67.get rfl rfl ?_
        refine g_top (w := nI p) (rfl) ?_
        refine g_callVI [.int (nI p)] (by decide +kernel : decode prog_10_method_17_code 178 = .ok (.invokevirtual 73, 3)) lk_Md_73 (m_by hT p (by omega)) rfl rfl rfl rfl (Nat.le_of_ble_eq_true rfl) (Nat.le_of_ble_eq_true rfl) (fun r178 s178 h178 => ?_)
        obtain ⟨rfl, ⟨_, rfl⟩ | ⟨z, _⟩⟩ := h178
        rotate_left
        exact absurd b139 z
        refine g_iaddN (by decide +kernel : decode prog_10_method_17_code 181 = .ok (.iadd, 1)) ?_
        refine g_bipush (v := nI 48) (by decide +kernel : decode prog_10_method_17_code 182 = .ok (.bipush 48, 2)) (by decide) ?_
        refine g_isubN (by decide +kernel : decode prog_10_method_17_code 184 = .ok (.isub, 1)) (by omega) ?_
        refine g_putI (by decide +kernel : decode prog_10_method_17_code 185 = .ok (.putfield 87, 3)) fl_Md_87 rfl rfl ?_
        refine g_sto (kS_u10 _ _ _ _ _ _ _ _ _) ?_
        refine g_aload_n (by decide +kernel : decode prog_10_method_17_code 188 = .ok (.aload_n 0, 1)) rfl ?_
        refine g_dup (by decide +kernel : decode prog_10_method_17_code 189 = .ok (.dup, 1)) rfl ?_
        refine g_getI (by decide +kernel : decode prog_10_method_17_code 190 = .ok (.getfield 67, 3)) fl_Md_67.get rfl rfl ?_
        refine g_top (w := nI p) (rfl) ?_
        refine g_iconst (v := nI 1) (by decide +kernel : decode prog_10_method_17_code 193 = .ok (.iconst 1, 1)) (by decide) ?_
        refine g_iaddN (by decide +kernel : decode prog_10_method_17_code 194 = .ok (.iadd, 1)) ?_
        refine g_putI (by decide +kernel : decode prog_10_method_17_code 195 = .ok (.putfield 67, 3)) fl_Md_67 rfl rfl ?_
        refine g_sto (kS_u9 _ _ _ _ _ _ _ _ _) ?_
        refine g_goto (tgt := 126) (by decide +kernel : decode prog_10_method_17_code 198 = .ok (.goto (-72), 3)) (by decide) ?_
        exact ih (p + 1) _ (by omega) (by omega) (by omega) (he.trans (ru_s b139 (cl_2.mpr d142))) (hf.trans ((vlF_s b139 (cl_2.mpr d142)).trans (by rw [if_neg (by omega)]))) hR
      · refine g_aload_n (by decide +kernel : decode prog_10_method_17_code 159 = .ok (.aload_n 0, 1)) rfl ?_
        refine g_getI (by decide +kernel : decode prog_10_method_17_code 160 = .ok (.getfield 87, 3)) fl_Md_87.get rfl rfl ?_
        refine g_top (w := nI v) (rfl) ?_
        refine g_goto (tgt := 185) (by decide +kernel : decode prog_10_method_17_code 163 = .ok (.goto 22, 3)) (by decide) ?_
        refine g_putI (by decide +kernel : decode prog_10_method_17_code 185 = .ok (.putfield 87, 3)) fl_Md_87 rfl rfl ?_
        refine g_sto (kS_u10 _ _ _ _ _ _ _ _ _) ?_
        refine g_aload_n (by decide +kernel : decode prog_10_method_17_code 188 = .ok (.aload_n 0, 1)) rfl ?_
        refine g_dup (by decide +kernel : decode prog_10_method_17_code 189 = .ok (.dup, 1)) rfl ?_
        refine g_getI (by decide +kernel : decode prog_10_method_17_code 190 = .ok (.getfield 67, 3)) fl_Md_67.get rfl rfl ?_
        refine g_top (w := nI p) (rfl) ?_
        refine g_iconst (v := nI 1) (by decide +kernel : decode prog_10_method_17_code 193 = .ok (.iconst 1, 1)) (by decide) ?_
        refine g_iaddN (by decide +kernel : decode prog_10_method_17_code 194 = .ok (.iadd, 1)) ?_
        refine g_putI (by decide +kernel : decode prog_10_method_17_code 195 = .ok (.putfield 67, 3)) fl_Md_67 rfl rfl ?_
        refine g_sto (kS_u9 _ _ _ _ _ _ _ _ _) ?_
        refine g_goto (tgt := 126) (by decide +kernel : decode prog_10_method_17_code 198 = .ok (.goto (-72), 3)) (by decide) ?_
        exact ih (p + 1) _ (by omega) (by omega) (by omega) (he.trans (ru_s b139 (cl_2.mpr d142))) (hf.trans ((vlF_s b139 (cl_2.mpr d142)).trans (by rw [if_pos (by omega)]))) hR
    · refine g_if_eqN (tgt := 201) (by decide +kernel : decode prog_10_method_17_code 145 = .ok (.ifCond .eq 56, 3)) (by decide) (by decide) (fun _ => ?_) (fun h => False.elim (by revert h; decide))
      refine g_aload_n (by decide +kernel : decode prog_10_method_17_code 201 = .ok (.aload_n 0, 1)) rfl ?_
      refine g_dup (by decide +kernel : decode prog_10_method_17_code 202 = .ok (.dup, 1)) rfl ?_
      refine g_getI (by decide +kernel : decode prog_10_method_17_code 203 = .ok (.getfield 67, 3)) fl_Md_67.get rfl rfl ?_
      refine g_top (w := nI p) (rfl) ?_
      refine g_aload_n (by decide +kernel : decode prog_10_method_17_code 206 = .ok (.aload_n 0, 1)) rfl ?_
      refine g_getI (by decide +kernel : decode prog_10_method_17_code 207 = .ok (.getfield 84, 3)) fl_Md_84.get rfl rfl ?_
      refine g_top (w := nI 2) (rfl) ?_
      refine g_iconst (v := nI 2) (by decide +kernel : decode prog_10_method_17_code 210 = .ok (.iconst 2, 1)) (by decide) ?_
      refine g_icmp_leN (tgt := 218) (by decide +kernel : decode prog_10_method_17_code 211 = .ok (.if_icmp .le 7, 3)) (by decide) (by decide) (by decide) (fun _ => ?_) (fun h => False.elim (by revert h; decide))
      refine g_iconst (v := nI 0) (by decide +kernel : decode prog_10_method_17_code 218 = .ok (.iconst 0, 1)) (by decide) ?_
      refine g_iaddN (by decide +kernel : decode prog_10_method_17_code 219 = .ok (.iadd, 1)) ?_
      refine g_putI (by decide +kernel : decode prog_10_method_17_code 220 = .ok (.putfield 67, 3)) fl_Md_67 rfl rfl ?_
      refine g_sto (kS_u9 _ _ _ _ _ _ _ _ _) ?_
      refine g_sto (show _ = mS (tS σ t w q) f b from ?_) (g_vret hR (by decide +kernel : decode prog_10_method_17_code 223 = .ok (.return_, 1)) rfl ⟨rfl, rfl⟩)
      have e1 : ru (Bt σ) t 2 p = p := ru_e (fun z => by first | exact b139 z.1 | exact d142 (cl_2.mp z.2))
      have e2 : en (Bt σ) t q = p := by unfold en; rw [hk, if_neg (by decide), if_neg (by decide), he, e1]
      have e4 : vlF (Bt σ) t (t - p) p v = v := vlF_e (fun z => by first | exact b139 z.1 | exact d142 (cl_2.mp z.2))
      have e3 : vl (Bt σ) t q = v := by unfold vl; rw [hk, if_pos rfl, hf, e4]
      unfold tS
      rw [hk, e2, e3, Nat.add_zero]
  · refine g_callSI [.int (-1)] (by decide +kernel : decode prog_10_method_17_code 142 = .ok (.invokestatic 81, 3)) lk_Md_81 (m_isDigit ΛM (mS (kS σ (nI 2) (nI q) (nI p) (nI v) w) f b) (-1)) rfl rfl (Nat.le_of_ble_eq_true rfl) (Nat.le_of_ble_eq_true rfl) (fun r142 s142 h142 => ?_)
    obtain ⟨rfl, h142⟩ := h142
    rcases h142 with ⟨_, z⟩ | ⟨rfl, _⟩
    · exact absurd z.1 (by decide)
    refine g_if_eqN (tgt := 201) (by decide +kernel : decode prog_10_method_17_code 145 = .ok (.ifCond .eq 56, 3)) (by decide) (by decide) (fun _ => ?_) (fun h => False.elim (by revert h; decide))
    refine g_aload_n (by decide +kernel : decode prog_10_method_17_code 201 = .ok (.aload_n 0, 1)) rfl ?_
    refine g_dup (by decide +kernel : decode prog_10_method_17_code 202 = .ok (.dup, 1)) rfl ?_
    refine g_getI (by decide +kernel : decode prog_10_method_17_code 203 = .ok (.getfield 67, 3)) fl_Md_67.get rfl rfl ?_
    refine g_top (w := nI p) (rfl) ?_
    refine g_aload_n (by decide +kernel : decode prog_10_method_17_code 206 = .ok (.aload_n 0, 1)) rfl ?_
    refine g_getI (by decide +kernel : decode prog_10_method_17_code 207 = .ok (.getfield 84, 3)) fl_Md_84.get rfl rfl ?_
    refine g_top (w := nI 2) (rfl) ?_
    refine g_iconst (v := nI 2) (by decide +kernel : decode prog_10_method_17_code 210 = .ok (.iconst 2, 1)) (by decide) ?_
    refine g_icmp_leN (tgt := 218) (by decide +kernel : decode prog_10_method_17_code 211 = .ok (.if_icmp .le 7, 3)) (by decide) (by decide) (by decide) (fun _ => ?_) (fun h => False.elim (by revert h; decide))
    refine g_iconst (v := nI 0) (by decide +kernel : decode prog_10_method_17_code 218 = .ok (.iconst 0, 1)) (by decide) ?_
    refine g_iaddN (by decide +kernel : decode prog_10_method_17_code 219 = .ok (.iadd, 1)) ?_
    refine g_putI (by decide +kernel : decode prog_10_method_17_code 220 = .ok (.putfield 67, 3)) fl_Md_67 rfl rfl ?_
    refine g_sto (kS_u9 _ _ _ _ _ _ _ _ _) ?_
    refine g_sto (show _ = mS (tS σ t w q) f b from ?_) (g_vret hR (by decide +kernel : decode prog_10_method_17_code 223 = .ok (.return_, 1)) rfl ⟨rfl, rfl⟩)
    have e1 : ru (Bt σ) t 2 p = p := ru_e (fun z => by first | exact b139 z.1 | exact d142 (cl_2.mp z.2))
    have e2 : en (Bt σ) t q = p := by unfold en; rw [hk, if_neg (by decide), if_neg (by decide), he, e1]
    have e4 : vlF (Bt σ) t (t - p) p v = v := vlF_e (fun z => by first | exact b139 z.1 | exact d142 (cl_2.mp z.2))
    have e3 : vl (Bt σ) t q = v := by unfold vl; rw [hk, if_pos rfl, hf, e4]
    unfold tS
    rw [hk, e2, e3, Nat.add_zero]
set_option maxRecDepth 20000 in
theorem nt_mid {X : CX} {σ : Store} {t : Nat} (hT : TP σ t) {f b : Row} {k e v w : Int32} {q : Nat} (hq : q ≤ t) : Rt (ΛM, mt_Md_nextToken, 1) (PU (mS (tS σ t w (q)) f b)) X → G (ΛM, mt_Md_nextToken, 1) X (mS (kS σ k (nI q) e v w) f b) [some (.ref 0), none] [] 34 := by
  intro hR
  have h200 := hT.2.1
  refine g_aload_n (by decide +kernel : decode prog_10_method_17_code 34 = .ok (.aload_n 0, 1)) rfl ?_
  refine g_aload_n (by decide +kernel : decode prog_10_method_17_code 35 = .ok (.aload_n 0, 1)) rfl ?_
  refine g_getI (by decide +kernel : decode prog_10_method_17_code 36 = .ok (.getfield 70, 3)) fl_Md_70.get rfl rfl ?_
  refine g_top (w := nI q) (rfl) ?_
  refine g_putI (by decide +kernel : decode prog_10_method_17_code 39 = .ok (.putfield 67, 3)) fl_Md_67 rfl rfl ?_
  refine g_sto (kS_u9 _ _ _ _ _ _ _ _ _) ?_
  refine g_aload_n (by decide +kernel : decode prog_10_method_17_code 42 = .ok (.aload_n 0, 1)) rfl ?_
  refine g_aload_n (by decide +kernel : decode prog_10_method_17_code 43 = .ok (.aload_n 0, 1)) rfl ?_
  refine g_getI (by decide +kernel : decode prog_10_method_17_code 44 = .ok (.getfield 70, 3)) fl_Md_70.get rfl rfl ?_
  refine g_top (w := nI q) (rfl) ?_
  refine g_callVI [.int (nI q)] (by decide +kernel : decode prog_10_method_17_code 47 = .ok (.invokevirtual 73, 3)) lk_Md_73 (m_by hT q (by omega)) rfl rfl rfl rfl (Nat.le_of_ble_eq_true rfl) (Nat.le_of_ble_eq_true rfl) (fun r47 s47 h47 => ?_)
  rcases h47 with ⟨rfl, ⟨b47, rfl⟩ | ⟨b47, rfl⟩⟩
  · have c47 := Bt_b hT b47
    refine g_istore_n (L' := [some (.ref 0), some (.int (nI (Bt σ q)))]) (by decide +kernel : decode prog_10_method_17_code 50 = .ok (.istore_n 1, 1)) (Nat.le_of_ble_eq_true rfl) rfl ?_
    refine g_aload_n (by decide +kernel : decode prog_10_method_17_code 51 = .ok (.aload_n 0, 1)) rfl ?_
    refine g_iload_n (by decide +kernel : decode prog_10_method_17_code 52 = .ok (.iload_n 1, 1)) rfl ?_
    refine g_if_geN (tgt := 60) (by decide +kernel : decode prog_10_method_17_code 53 = .ok (.ifCond .ge 7, 3)) (by decide) (by omega) ?_
    refine g_iload_n (by decide +kernel : decode prog_10_method_17_code 60 = .ok (.iload_n 1, 1)) rfl ?_
    refine g_callSI [.int (nI (Bt σ q))] (by decide +kernel : decode prog_10_method_17_code 61 = .ok (.invokestatic 77, 3)) lk_Md_77 (m_isAlphaN ΛM (mS (kS σ k (nI q) (nI q) v w) f b) (Bt σ q) (by omega)) rfl rfl (Nat.le_of_ble_eq_true rfl) (Nat.le_of_ble_eq_true rfl) (fun r61 s61 h61 => ?_)
    rcases h61 with ⟨rfl, ⟨rfl, d61⟩ | ⟨rfl, d61⟩⟩
    · refine g_if_eqN (tgt := 71) (by decide +kernel : decode prog_10_method_17_code 64 = .ok (.ifCond .eq 7, 3)) (by decide) (by decide) (fun h => False.elim (by revert h; decide)) (fun _ => ?_)
      refine g_iconst (v := nI 1) (by decide +kernel : decode prog_10_method_17_code 67 = .ok (.iconst 1, 1)) (by decide) ?_
      refine g_goto (tgt := 83) (by decide +kernel : decode prog_10_method_17_code 68 = .ok (.goto 15, 3)) (by decide) ?_
      refine g_putI (by decide +kernel : decode prog_10_method_17_code 83 = .ok (.putfield 84, 3)) fl_Md_84 rfl rfl ?_
      refine g_sto (kS_u7 _ _ _ _ _ _ _ _ _) ?_
      refine g_aload_n (by decide +kernel : decode prog_10_method_17_code 86 = .ok (.aload_n 0, 1)) rfl ?_
      refine g_iconst (v := nI 0) (by decide +kernel : decode prog_10_method_17_code 87 = .ok (.iconst 0, 1)) (by decide) ?_
      refine g_putI (by decide +kernel : decode prog_10_method_17_code 88 = .ok (.putfield 87, 3)) fl_Md_87 rfl rfl ?_
      refine g_sto (kS_u10 _ _ _ _ _ _ _ _ _) ?_
      have kq : kd (Bt σ) t q = 1 := (kd_of b47).trans (cl_1.mpr d61)
      refine g_sub (L' := [some (.ref 0), none]) ⟨rfl, trivial⟩ ?_
      exact nt_l1 hT kq (t - q + 1) q hq (by omega) rfl hR
    · refine g_if_eqN (tgt := 71) (by decide +kernel : decode prog_10_method_17_code 64 = .ok (.ifCond .eq 7, 3)) (by decide) (by decide) (fun _ => ?_) (fun h => False.elim (by revert h; decide))
      refine g_iload_n (by decide +kernel : decode prog_10_method_17_code 71 = .ok (.iload_n 1, 1)) rfl ?_
      refine g_callSI [.int (nI (Bt σ q))] (by decide +kernel : decode prog_10_method_17_code 72 = .ok (.invokestatic 81, 3)) lk_Md_81 (m_isDigitN ΛM (mS (kS σ k (nI q) (nI q) v w) f b) (Bt σ q) (by omega)) rfl rfl (Nat.le_of_ble_eq_true rfl) (Nat.le_of_ble_eq_true rfl) (fun r72 s72 h72 => ?_)
      rcases h72 with ⟨rfl, ⟨rfl, d72⟩ | ⟨rfl, d72⟩⟩
      · refine g_if_eqN (tgt := 82) (by decide +kernel : decode prog_10_method_17_code 75 = .ok (.ifCond .eq 7, 3)) (by decide) (by decide) (fun h => False.elim (by revert h; decide)) (fun _ => ?_)
        refine g_iconst (v := nI 2) (by decide +kernel : decode prog_10_method_17_code 78 = .ok (.iconst 2, 1)) (by decide) ?_
        refine g_goto (tgt := 83) (by decide +kernel : decode prog_10_method_17_code 79 = .ok (.goto 4, 3)) (by decide) ?_
        refine g_putI (by decide +kernel : decode prog_10_method_17_code 83 = .ok (.putfield 84, 3)) fl_Md_84 rfl rfl ?_
        refine g_sto (kS_u7 _ _ _ _ _ _ _ _ _) ?_
        refine g_aload_n (by decide +kernel : decode prog_10_method_17_code 86 = .ok (.aload_n 0, 1)) rfl ?_
        refine g_iconst (v := nI 0) (by decide +kernel : decode prog_10_method_17_code 87 = .ok (.iconst 0, 1)) (by decide) ?_
        refine g_putI (by decide +kernel : decode prog_10_method_17_code 88 = .ok (.putfield 87, 3)) fl_Md_87 rfl rfl ?_
        refine g_sto (kS_u10 _ _ _ _ _ _ _ _ _) ?_
        refine g_aload_n (by decide +kernel : decode prog_10_method_17_code 91 = .ok (.aload_n 0, 1)) rfl ?_
        refine g_getI (by decide +kernel : decode prog_10_method_17_code 92 = .ok (.getfield 84, 3)) fl_Md_84.get rfl rfl ?_
        refine g_top (w := nI 2) (rfl) ?_
        refine g_iconst (v := nI 1) (by decide +kernel : decode prog_10_method_17_code 95 = .ok (.iconst 1, 1)) (by decide) ?_
        refine g_icmp_neN (tgt := 126) (by decide +kernel : decode prog_10_method_17_code 96 = .ok (.if_icmp .ne 30, 3)) (by decide) (by decide) (by decide) (fun _ => ?_) (fun h => False.elim (by revert h; decide))
        have kq : kd (Bt σ) t q = 2 := (kd_of b47).trans (cl_2.mpr d72)
        refine g_sub (L' := [some (.ref 0), none]) ⟨rfl, trivial⟩ ?_
        exact nt_l2 hT kq (t - q + 1) q 0 hq (by omega) (by decide) rfl rfl hR
      · refine g_if_eqN (tgt := 82) (by decide +kernel : decode prog_10_method_17_code 75 = .ok (.ifCond .eq 7, 3)) (by decide) (by decide) (fun _ => ?_) (fun h => False.elim (by revert h; decide))
        refine g_iconst (v := nI 3) (by decide +kernel : decode prog_10_method_17_code 82 = .ok (.iconst 3, 1)) (by decide) ?_
        refine g_putI (by decide +kernel : decode prog_10_method_17_code 83 = .ok (.putfield 84, 3)) fl_Md_84 rfl rfl ?_
        refine g_sto (kS_u7 _ _ _ _ _ _ _ _ _) ?_
        refine g_aload_n (by decide +kernel : decode prog_10_method_17_code 86 = .ok (.aload_n 0, 1)) rfl ?_
        refine g_iconst (v := nI 0) (by decide +kernel : decode prog_10_method_17_code 87 = .ok (.iconst 0, 1)) (by decide) ?_
        refine g_putI (by decide +kernel : decode prog_10_method_17_code 88 = .ok (.putfield 87, 3)) fl_Md_87 rfl rfl ?_
        refine g_sto (kS_u10 _ _ _ _ _ _ _ _ _) ?_
        refine g_aload_n (by decide +kernel : decode prog_10_method_17_code 91 = .ok (.aload_n 0, 1)) rfl ?_
        refine g_getI (by decide +kernel : decode prog_10_method_17_code 92 = .ok (.getfield 84, 3)) fl_Md_84.get rfl rfl ?_
        refine g_top (w := nI 3) (rfl) ?_
        refine g_iconst (v := nI 1) (by decide +kernel : decode prog_10_method_17_code 95 = .ok (.iconst 1, 1)) (by decide) ?_
        refine g_icmp_neN (tgt := 126) (by decide +kernel : decode prog_10_method_17_code 96 = .ok (.if_icmp .ne 30, 3)) (by decide) (by decide) (by decide) (fun _ => ?_) (fun h => False.elim (by revert h; decide))
        refine g_aload_n (by decide +kernel : decode prog_10_method_17_code 126 = .ok (.aload_n 0, 1)) rfl ?_
        refine g_getI (by decide +kernel : decode prog_10_method_17_code 127 = .ok (.getfield 84, 3)) fl_Md_84.get rfl rfl ?_
        refine g_top (w := nI 3) (rfl) ?_
        refine g_iconst (v := nI 2) (by decide +kernel : decode prog_10_method_17_code 130 = .ok (.iconst 2, 1)) (by decide) ?_
        refine g_icmp_neN (tgt := 201) (by decide +kernel : decode prog_10_method_17_code 131 = .ok (.if_icmp .ne 70, 3)) (by decide) (by decide) (by decide) (fun _ => ?_) (fun h => False.elim (by revert h; decide))
        refine g_aload_n (by decide +kernel : decode prog_10_method_17_code 201 = .ok (.aload_n 0, 1)) rfl ?_
        refine g_dup (by decide +kernel : decode prog_10_method_17_code 202 = .ok (.dup, 1)) rfl ?_
        refine g_getI (by decide +kernel : decode prog_10_method_17_code 203 = .ok (.getfield 67, 3)) fl_Md_67.get rfl rfl ?_
        refine g_top (w := nI q) (rfl) ?_
        refine g_aload_n (by decide +kernel : decode prog_10_method_17_code 206 = .ok (.aload_n 0, 1)) rfl ?_
        refine g_getI (by decide +kernel : decode prog_10_method_17_code 207 = .ok (.getfield 84, 3)) fl_Md_84.get rfl rfl ?_
        refine g_top (w := nI 3) (rfl) ?_
        refine g_iconst (v := nI 2) (by decide +kernel : decode prog_10_method_17_code 210 = .ok (.iconst 2, 1)) (by decide) ?_
        refine g_icmp_leN (tgt := 218) (by decide +kernel : decode prog_10_method_17_code 211 = .ok (.if_icmp .le 7, 3)) (by decide) (by decide) (by decide) (fun h => False.elim (by revert h; decide)) (fun _ => ?_)
        refine g_iconst (v := nI 1) (by decide +kernel : decode prog_10_method_17_code 214 = .ok (.iconst 1, 1)) (by decide) ?_
        refine g_goto (tgt := 219) (by decide +kernel : decode prog_10_method_17_code 215 = .ok (.goto 4, 3)) (by decide) ?_
        refine g_iaddN (by decide +kernel : decode prog_10_method_17_code 219 = .ok (.iadd, 1)) ?_
        refine g_putI (by decide +kernel : decode prog_10_method_17_code 220 = .ok (.putfield 67, 3)) fl_Md_67 rfl rfl ?_
        refine g_sto (kS_u9 _ _ _ _ _ _ _ _ _) ?_
        refine g_sto (show _ = mS (tS σ t w q) f b from ?_) (g_vret hR (by decide +kernel : decode prog_10_method_17_code 223 = .ok (.return_, 1)) rfl ⟨rfl, rfl⟩)
        have kq : kd (Bt σ) t q = 3 := (kd_of b47).trans (by unfold cl; rw [if_neg d61, if_neg d72])
        have e2 : en (Bt σ) t q = q + 1 := by unfold en; rw [kq]; rfl
        have e3 : vl (Bt σ) t q = 0 := by unfold vl; rw [kq]; rfl
        unfold tS
        rw [kq, e2, e3]
        all_goals rfl
  · refine g_istore_n (L' := [some (.ref 0), some (.int (-1))]) (by decide +kernel : decode prog_10_method_17_code 50 = .ok (.istore_n 1, 1)) (Nat.le_of_ble_eq_true rfl) rfl ?_
    refine g_aload_n (by decide +kernel : decode prog_10_method_17_code 51 = .ok (.aload_n 0, 1)) rfl ?_
    refine g_iload_n (by decide +kernel : decode prog_10_method_17_code 52 = .ok (.iload_n 1, 1)) rfl ?_
    refine g_if_ge (tgt := 60) (by decide +kernel : decode prog_10_method_17_code 53 = .ok (.ifCond .ge 7, 3)) (by decide) (fun h => absurd h (by decide)) (fun _ => ?_)
    refine g_iconst (v := nI 0) (by decide +kernel : decode prog_10_method_17_code 56 = .ok (.iconst 0, 1)) (by decide) ?_
    refine g_goto (tgt := 83) (by decide +kernel : decode prog_10_method_17_code 57 = .ok (.goto 26, 3)) (by decide) ?_
    refine g_putI (by decide +kernel : decode prog_10_method_17_code 83 = .ok (.putfield 84, 3)) fl_Md_84 rfl rfl ?_
    refine g_sto (kS_u7 _ _ _ _ _ _ _ _ _) ?_
    refine g_aload_n (by decide +kernel : decode prog_10_method_17_code 86 = .ok (.aload_n 0, 1)) rfl ?_
    refine g_iconst (v := nI 0) (by decide +kernel : decode prog_10_method_17_code 87 = .ok (.iconst 0, 1)) (by decide) ?_
    refine g_putI (by decide +kernel : decode prog_10_method_17_code 88 = .ok (.putfield 87, 3)) fl_Md_87 rfl rfl ?_
    refine g_sto (kS_u10 _ _ _ _ _ _ _ _ _) ?_
    refine g_aload_n (by decide +kernel : decode prog_10_method_17_code 91 = .ok (.aload_n 0, 1)) rfl ?_
    refine g_getI (by decide +kernel : decode prog_10_method_17_code 92 = .ok (.getfield 84, 3)) fl_Md_84.get rfl rfl ?_
    refine g_top (w := nI 0) (rfl) ?_
    refine g_iconst (v := nI 1) (by decide +kernel : decode prog_10_method_17_code 95 = .ok (.iconst 1, 1)) (by decide) ?_
    refine g_icmp_neN (tgt := 126) (by decide +kernel : decode prog_10_method_17_code 96 = .ok (.if_icmp .ne 30, 3)) (by decide) (by decide) (by decide) (fun _ => ?_) (fun h => False.elim (by revert h; decide))
    refine g_aload_n (by decide +kernel : decode prog_10_method_17_code 126 = .ok (.aload_n 0, 1)) rfl ?_
    refine g_getI (by decide +kernel : decode prog_10_method_17_code 127 = .ok (.getfield 84, 3)) fl_Md_84.get rfl rfl ?_
    refine g_top (w := nI 0) (rfl) ?_
    refine g_iconst (v := nI 2) (by decide +kernel : decode prog_10_method_17_code 130 = .ok (.iconst 2, 1)) (by decide) ?_
    refine g_icmp_neN (tgt := 201) (by decide +kernel : decode prog_10_method_17_code 131 = .ok (.if_icmp .ne 70, 3)) (by decide) (by decide) (by decide) (fun _ => ?_) (fun h => False.elim (by revert h; decide))
    refine g_aload_n (by decide +kernel : decode prog_10_method_17_code 201 = .ok (.aload_n 0, 1)) rfl ?_
    refine g_dup (by decide +kernel : decode prog_10_method_17_code 202 = .ok (.dup, 1)) rfl ?_
    refine g_getI (by decide +kernel : decode prog_10_method_17_code 203 = .ok (.getfield 67, 3)) fl_Md_67.get rfl rfl ?_
    refine g_top (w := nI q) (rfl) ?_
    refine g_aload_n (by decide +kernel : decode prog_10_method_17_code 206 = .ok (.aload_n 0, 1)) rfl ?_
    refine g_getI (by decide +kernel : decode prog_10_method_17_code 207 = .ok (.getfield 84, 3)) fl_Md_84.get rfl rfl ?_
    refine g_top (w := nI 0) (rfl) ?_
    refine g_iconst (v := nI 2) (by decide +kernel : decode prog_10_method_17_code 210 = .ok (.iconst 2, 1)) (by decide) ?_
    refine g_icmp_leN (tgt := 218) (by decide +kernel : decode prog_10_method_17_code 211 = .ok (.if_icmp .le 7, 3)) (by decide) (by decide) (by decide) (fun _ => ?_) (fun h => False.elim (by revert h; decide))
    refine g_iconst (v := nI 0) (by decide +kernel : decode prog_10_method_17_code 218 = .ok (.iconst 0, 1)) (by decide) ?_
    refine g_iaddN (by decide +kernel : decode prog_10_method_17_code 219 = .ok (.iadd, 1)) ?_
    refine g_putI (by decide +kernel : decode prog_10_method_17_code 220 = .ok (.putfield 67, 3)) fl_Md_67 rfl rfl ?_
    refine g_sto (kS_u9 _ _ _ _ _ _ _ _ _) ?_
    refine g_sto (show _ = mS (tS σ t w q) f b from ?_) (g_vret hR (by decide +kernel : decode prog_10_method_17_code 223 = .ok (.return_, 1)) rfl ⟨rfl, rfl⟩)
    have kq : kd (Bt σ) t q = 0 := kd_0.mpr b47
    have e2 : en (Bt σ) t q = q := by unfold en; rw [kq]; rfl
    have e3 : vl (Bt σ) t q = 0 := by unfold vl; rw [kq]; rfl
    unfold tS
    rw [kq, e2, e3]
    all_goals rfl
set_option maxRecDepth 20000 in
theorem nt_sk {X : CX} {σ : Store} {t : Nat} (hT : TP σ t) {f b : Row} {k e v w : Int32} : ∀ (b9 p : Nat), p ≤ t → t - p < b9 → Rt (ΛM, mt_Md_nextToken, 1) (PU (mS (tS σ t w (sk (Bt σ) t p)) f b)) X → G (ΛM, mt_Md_nextToken, 1) X (mS (kS σ k (nI p) e v w) f b) [some (.ref 0), none] [] 8 := by
  have h200 := hT.2.1
  intro b9
  induction b9 with
  | zero => intro p hp hb hR; omega
  | succ b9 ih =>
  intro p hp hb hR
  refine g_aload_n (by decide +kernel : decode prog_10_method_17_code 8 = .ok (.aload_n 0, 1)) rfl ?_
  refine g_aload_n (by decide +kernel : decode prog_10_method_17_code 9 = .ok (.aload_n 0, 1)) rfl ?_
  refine g_getI (by decide +kernel : decode prog_10_method_17_code 10 = .ok (.getfield 70, 3)) fl_Md_70.get rfl rfl ?_
  refine g_top (w := nI p) (rfl) ?_
  refine g_callVI [.int (nI p)] (by decide +kernel : decode prog_10_method_17_code 13 = .ok (.invokevirtual 73, 3)) lk_Md_73 (m_by hT p (by omega)) rfl rfl rfl rfl (Nat.le_of_ble_eq_true rfl) (Nat.le_of_ble_eq_true rfl) (fun r13 s13 h13 => ?_)
  rcases h13 with ⟨rfl, ⟨b13, rfl⟩ | ⟨b13, rfl⟩⟩
  · have c13 := Bt_b hT b13
    refine g_bipush (v := nI 32) (by decide +kernel : decode prog_10_method_17_code 16 = .ok (.bipush 32, 2)) (by decide) ?_
    refine g_icmp_neN (tgt := 34) (by decide +kernel : decode prog_10_method_17_code 18 = .ok (.if_icmp .ne 16, 3)) (by decide) (by omega) (by decide) (fun h18 => ?_) (fun h18 => ?_)
    · rw [sk_e (fun z => h18 z.2)] at hR
      exact nt_mid hT hp hR
    · refine g_aload_n (by decide +kernel : decode prog_10_method_17_code 21 = .ok (.aload_n 0, 1)) rfl ?_
      refine g_dup (by decide +kernel : decode prog_10_method_17_code 22 = .ok (.dup, 1)) rfl ?_
      refine g_getI (by decide +kernel : decode prog_10_method_17_code 23 = .ok (.getfield 70, 3)) fl_Md_70.get rfl rfl ?_
      refine g_top (w := nI p) (rfl) ?_
      refine g_iconst (v := nI 1) (by decide +kernel : decode prog_10_method_17_code 26 = .ok (.iconst 1, 1)) (by decide) ?_
      refine g_iaddN (by decide +kernel : decode prog_10_method_17_code 27 = .ok (.iadd, 1)) ?_
      refine g_putI (by decide +kernel : decode prog_10_method_17_code 28 = .ok (.putfield 70, 3)) fl_Md_70 rfl rfl ?_
      refine g_sto (kS_u8 _ _ _ _ _ _ _ _ _) ?_
      refine g_goto (tgt := 8) (by decide +kernel : decode prog_10_method_17_code 31 = .ok (.goto (-23), 3)) (by decide) ?_
      rw [sk_s b13 h18] at hR
      exact ih (p + 1) (by omega) (by omega) hR
  · refine g_bipush (v := nI 32) (by decide +kernel : decode prog_10_method_17_code 16 = .ok (.bipush 32, 2)) (by decide) ?_
    refine g_icmp_ne (tgt := 34) (by decide +kernel : decode prog_10_method_17_code 18 = .ok (.if_icmp .ne 16, 3)) (by decide) (fun _ => ?_) (fun h => absurd h (by decide))
    rw [sk_e (fun z => b13 z.1)] at hR
    exact nt_mid hT hp hR
set_option maxRecDepth 20000 in
theorem m_next (σ : Store) (f b : Row) {t : Nat} (hT : TP σ t) (k z v w : Int32) (q : Nat) (hq : q ≤ t) : Ct ΛM mt_Md_nextToken 1 [.ref 0] (mS (kS σ k z (nI q) v w) f b) (PU (mS (tS σ t w (sk (Bt σ) t q)) f b)) := by
  refine Ct.of (by decide) (Nat.le_of_ble_eq_true rfl) (fun X hR => ?_)
  show G (ΛM, mt_Md_nextToken, 1) X (mS (kS σ k z (nI q) v w) f b) [some (.ref 0), none] [] 0
  refine g_aload_n (by decide +kernel : decode prog_10_method_17_code 0 = .ok (.aload_n 0, 1)) rfl ?_
  refine g_aload_n (by decide +kernel : decode prog_10_method_17_code 1 = .ok (.aload_n 0, 1)) rfl ?_
  refine g_getI (by decide +kernel : decode prog_10_method_17_code 2 = .ok (.getfield 67, 3)) fl_Md_67.get rfl rfl ?_
  refine g_top (w := nI q) (rfl) ?_
  refine g_putI (by decide +kernel : decode prog_10_method_17_code 5 = .ok (.putfield 70, 3)) fl_Md_70 rfl rfl ?_
  refine g_sto (kS_u8 _ _ _ _ _ _ _ _ _) ?_
  exact nt_sk hT (t - q + 1) q hq (by omega) hR
