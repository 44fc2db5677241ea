/-! THE REFERENCE: acts -/
/-- the store with the trace B of r bodies, p: parted by 0 -/
def aS (σ : Store) (B : Row) (r p : Nat) : Store := s_up (s_up (s_row σ 14 B) 0 22 (nI r)) 0 26 (nI p)
theorem aS_14 (σ : Store) (B : Row) (r p i : Nat) (v : Int32) : s_up (aS σ B r p) 14 i v = aS σ (upd B i v) r p := by
  funext k
  unfold aS s_up s_row
  by_cases h : k = 14
  · subst h; rfl
  · simp [h]
theorem aS_r (σ : Store) (B : Row) (r p q : Nat) : s_up (aS σ B r p) 0 22 (nI q) = aS σ B q p := by
  funext k
  unfold aS s_up s_row
  by_cases h : k = 0
  · subst h
    simp only [↓reduceIte]
    funext j
    unfold upd
    by_cases h1 : j = 22
    · subst h1; rfl
    · simp [h1]
  · simp [h]
theorem aS_p (σ : Store) (B : Row) (r p q : Nat) : s_up (aS σ B r p) 0 26 (nI q) = aS σ B r q := by
  funext k
  unfold aS s_up s_row
  by_cases h : k = 0
  · subst h
    simp only [↓reduceIte]
    rw [upd_upd]
  · simp [h]
/-- bodies written from r on -/
def wl (B : Row) (r : Nat) : List Int32 → Row
  | [] => B
  | c :: cs => wl (upd B r c) (r + 1) cs
def cC (k : Nat) : List Int32 := match k with
  | 2 => [nI 30, nI 10]
  | 3 => [nI 51, nI 10]
  | 4 => [nI 40, nI 30, nI 10]
  | _ => [nI 10]
def cV (k n : Nat) (x : Int32) : Int32 := match k with
  | 2 => (x - nI (n * 2)) ^^^ nI 3
  | 3 => (x - nI (n * 2)) - nI n
  | 4 => nI 1 - ((x - nI (n * 2)) ^^^ nI 3)
  | _ => x - nI (n * 2)
def lC (k : Nat) : List Int32 := match k with
  | 1 => nI 20 :: nI 11 :: cC 1
  | 3 => nI 20 :: nI 11 :: cC 3
  | 4 => nI 41 :: nI 11 :: (cC 4 ++ cC 4)
  | k => nI 11 :: cC k
def lV (k n a : Nat) (x : Int32) : Int32 := match k with
  | 1 => (cV 1 n x * nI 2 - nI a) + nI 5
  | 3 => (cV 3 n x * nI 2 - nI a) + nI 5
  | 4 => (cV 4 n x * nI 2 - nI a) + cV 4 n (nI a)
  | k => cV k n x * nI 2 - nI a
def pP (n a : Nat) (x : Int32) : Int32 := if n = a then nI 0 else x / (nI a - nI n)
def pC (k n a : Nat) : List Int32 := match k with
  | 3 => [nI 50, nI 12]
  | 5 => nI 61 :: nI 12 :: (if n = a then [] else cC 5)
  | _ => [nI 12]
def pV (k n a : Nat) (x : Int32) : Int32 := match k with
  | 3 => pP n a (x + nI a) * nI 2
  | 5 => if n = a then nI 0 else pP n a x ^^^ cV 5 n (nI n)
  | _ => pP n a x
def kC (k n a : Nat) : List Int32 := match k with
  | 2 => nI 31 :: nI 13 :: (lC 2 ++ pC 2 n a)
  | 4 => nI 31 :: nI 13 :: (lC 4 ++ pC 4 n a)
  | 5 => nI 60 :: nI 13 :: lC 5
  | k => nI 13 :: lC k
def kV (k n a : Nat) (x : Int32) : Int32 := match k with
  | 2 => (lV 2 n a x ^^^ nI 12) - pV 2 n a (nI n)
  | 4 => (lV 4 n a x ^^^ nI 12) - pV 4 n a (nI n)
  | 5 => (lV 5 n a x ^^^ nI 12) * nI 3
  | k => lV k n a x ^^^ nI 12
/-- parted by 0, after an act -/
def aP (w k n a : Nat) : Nat := if n = a then (if w = 2 ∨ w = 3 ∧ (k = 2 ∨ k = 4) then 1 else 0) else 0
set_option maxRecDepth 20000 in
theorem m_runs (σ : Store) (B : Row) (r : Nat) (p : Nat) (x : Int32) (hr : r < 30) : Ct ΛM mt_Md_runs 0 [.ref 0, .int x] (aS σ B r p) (PU (aS σ (upd B r x) (r + 1) p)) := by
  refine Ct.of (by decide) (Nat.le_of_ble_eq_true rfl) (fun X hR => ?_)
  show G (ΛM, mt_Md_runs, 0) X (aS σ B r p) [some (.ref 0), some (.int x)] [] 0
  refine g_aload_n (by decide +kernel : decode prog_10_method_95_code 0 = .ok (.aload_n 0, 1)) rfl ?_
  refine g_getI (by decide +kernel : decode prog_10_method_95_code 1 = .ok (.getfield 282, 3)) fl_Md_282.get rfl rfl ?_
  refine g_top (w := nI r) (rfl) ?_
  refine g_bipush (v := nI 30) (by decide +kernel : decode prog_10_method_95_code 4 = .ok (.bipush 30, 2)) (by decide) ?_
  refine g_icmp_geN (tgt := 29) (by decide +kernel : decode prog_10_method_95_code 6 = .ok (.if_icmp .ge 23, 3)) (by decide) (by omega) (by decide) (fun h => absurd h (by omega)) (fun _ => ?_)
  refine g_aload_n (by decide +kernel : decode prog_10_method_95_code 9 = .ok (.aload_n 0, 1)) rfl ?_
  refine g_getR (by decide +kernel : decode prog_10_method_95_code 10 = .ok (.getfield 49, 3)) fl_Md_49 rfl rfl ?_
  refine g_aload_n (by decide +kernel : decode prog_10_method_95_code 13 = .ok (.aload_n 0, 1)) rfl ?_
  refine g_getI (by decide +kernel : decode prog_10_method_95_code 14 = .ok (.getfield 282, 3)) fl_Md_282.get rfl rfl ?_
  refine g_top (w := nI r) (rfl) ?_
  refine g_iload_n (by decide +kernel : decode prog_10_method_95_code 17 = .ok (.iload_n 1, 1)) rfl ?_
  refine g_iastore (a := r) (by decide +kernel : decode prog_10_method_95_code 18 = .ok (.iastore, 1)) rfl rfl (by omega) (by decide) ?_
  refine g_sto (aS_14 _ _ _ _ _ _) ?_
  refine g_aload_n (by decide +kernel : decode prog_10_method_95_code 19 = .ok (.aload_n 0, 1)) rfl ?_
  refine g_dup (by decide +kernel : decode prog_10_method_95_code 20 = .ok (.dup, 1)) rfl ?_
  refine g_getI (by decide +kernel : decode prog_10_method_95_code 21 = .ok (.getfield 282, 3)) fl_Md_282.get rfl rfl ?_
  refine g_top (w := nI r) (rfl) ?_
  refine g_iconst (v := nI 1) (by decide +kernel : decode prog_10_method_95_code 24 = .ok (.iconst 1, 1)) (by decide) ?_
  refine g_iaddN (by decide +kernel : decode prog_10_method_95_code 25 = .ok (.iadd, 1)) ?_
  refine g_putI (by decide +kernel : decode prog_10_method_95_code 26 = .ok (.putfield 282, 3)) fl_Md_282 rfl rfl ?_
  refine g_sto (aS_r _ _ _ _ _) ?_
  exact g_vret hR (by decide +kernel : decode prog_10_method_95_code 29 = .ok (.return_, 1)) rfl ⟨rfl, rfl⟩
set_option maxRecDepth 20000 in
theorem m_countsPlain (σ : Store) (B : Row) (r : Nat) (x : Int32) {n : Nat} (hn : σ 0 24 = nI n) (hr : r ≤ 25) : Ct ΛM mt_Md_countsPlain 1 [.ref 0, .int x] (aS σ B r 0) (PF (x - nI (n * 2)) (aS σ (upd B r (nI 10)) (r + 1) 0)) := by
  refine Ct.of (by decide) (Nat.le_of_ble_eq_true rfl) (fun X hR => ?_)
  show G (ΛM, mt_Md_countsPlain, 1) X (aS σ B r 0) [some (.ref 0), some (.int x)] [] 0
  refine g_aload_n (by decide +kernel : decode prog_10_method_96_code 0 = .ok (.aload_n 0, 1)) rfl ?_
  refine g_bipush (v := nI 10) (by decide +kernel : decode prog_10_method_96_code 1 = .ok (.bipush 10, 2)) (by decide) ?_
  refine g_callVV [.int (nI 10)] (by decide +kernel : decode prog_10_method_96_code 3 = .ok (.invokevirtual 285, 3)) lk_Md_285 (m_runs σ B r 0 (nI 10) (by omega)) rfl rfl rfl rfl (Nat.le_of_ble_eq_true rfl) (Nat.le_of_ble_eq_true rfl) (fun s3 h3 => ?_)
  obtain rfl := h3
  refine g_iload_n (by decide +kernel : decode prog_10_method_96_code 6 = .ok (.iload_n 1, 1)) rfl ?_
  refine g_aload_n (by decide +kernel : decode prog_10_method_96_code 7 = .ok (.aload_n 0, 1)) rfl ?_
  refine g_getI (by decide +kernel : decode prog_10_method_96_code 8 = .ok (.getfield 288, 3)) fl_Md_288.get rfl rfl ?_
  refine g_top (w := nI n) (hn) ?_
  refine g_iconst (v := nI 2) (by decide +kernel : decode prog_10_method_96_code 11 = .ok (.iconst 2, 1)) (by decide) ?_
  refine g_imulN (by decide +kernel : decode prog_10_method_96_code 12 = .ok (.imul, 1)) ?_
  refine g_isub (by decide +kernel : decode prog_10_method_96_code 13 = .ok (.isub, 1)) ?_
  exact g_iret hR (by decide +kernel : decode prog_10_method_96_code 14 = .ok (.ireturn, 1)) rfl ⟨_, rfl, ⟨rfl, rfl⟩⟩
set_option maxRecDepth 20000 in
theorem m_countsOfKeeper (σ : Store) (B : Row) (r : Nat) (x : Int32) {n : Nat} (hn : σ 0 24 = nI n) (hr : r ≤ 20) : Ct ΛM mt_Md_countsOfKeeper 2 [.ref 0, .int x] (aS σ B r 0) (PF ((x - nI (n * 2)) ^^^ nI 3) (aS σ (upd (upd B r (nI 30)) (r + 1) (nI 10)) (r + 1 + 1) 0)) := by
  refine Ct.of (by decide) (Nat.le_of_ble_eq_true rfl) (fun X hR => ?_)
  show G (ΛM, mt_Md_countsOfKeeper, 2) X (aS σ B r 0) [some (.ref 0), some (.int x)] [] 0
  refine g_aload_n (by decide +kernel : decode prog_10_method_97_code 0 = .ok (.aload_n 0, 1)) rfl ?_
  refine g_bipush (v := nI 30) (by decide +kernel : decode prog_10_method_97_code 1 = .ok (.bipush 30, 2)) (by decide) ?_
  refine g_callVV [.int (nI 30)] (by decide +kernel : decode prog_10_method_97_code 3 = .ok (.invokevirtual 285, 3)) lk_Md_285 (m_runs σ B r 0 (nI 30) (by omega)) rfl rfl rfl rfl (Nat.le_of_ble_eq_true rfl) (Nat.le_of_ble_eq_true rfl) (fun s3 h3 => ?_)
  obtain rfl := h3
  refine g_aload_n (by decide +kernel : decode prog_10_method_97_code 6 = .ok (.aload_n 0, 1)) rfl ?_
  refine g_iload_n (by decide +kernel : decode prog_10_method_97_code 7 = .ok (.iload_n 1, 1)) rfl ?_
  refine g_callVI [.int x] (by decide +kernel : decode prog_10_method_97_code 8 = .ok (.invokevirtual 291, 3)) lk_Md_291 (m_countsPlain σ (upd B r (nI 30)) (r + 1) x hn (by omega)) rfl rfl rfl rfl (Nat.le_of_ble_eq_true rfl) (Nat.le_of_ble_eq_true rfl) (fun r8 s8 h8 => ?_)
  obtain ⟨rfl, rfl⟩ := h8
  refine g_iconst (v := nI 3) (by decide +kernel : decode prog_10_method_97_code 11 = .ok (.iconst 3, 1)) (by decide) ?_
  refine g_ixor (by decide +kernel : decode prog_10_method_97_code 12 = .ok (.ixor, 1)) ?_
  exact g_iret hR (by decide +kernel : decode prog_10_method_97_code 13 = .ok (.ireturn, 1)) rfl ⟨_, rfl, ⟨rfl, rfl⟩⟩
set_option maxRecDepth 20000 in
theorem m_counts_0 (σ : Store) (B : Row) (r : Nat) (x : Int32) {n a : Nat} (hk : σ 0 23 = nI 0) (hn : σ 0 24 = nI n) (ha : σ 0 25 = nI a) (hr : r ≤ 15) : Ct ΛM mt_Md_counts 3 [.ref 0, .int x] (aS σ B r 0) (PF (cV 0 n x) (aS σ (wl B r (cC 0)) (r + 1) 0)) := by
  refine Ct.of (by decide) (Nat.le_of_ble_eq_true rfl) (fun X hR => ?_)
  show G (ΛM, mt_Md_counts, 3) X (aS σ B r 0) [some (.ref 0), some (.int x)] [] 0
  refine g_aload_n (by decide +kernel : decode prog_10_method_98_code 0 = .ok (.aload_n 0, 1)) rfl ?_
  refine g_getI (by decide +kernel : decode prog_10_method_98_code 1 = .ok (.getfield 294, 3)) fl_Md_294.get rfl rfl ?_
  refine g_top (w := nI 0) (hk) ?_
  refine g_tableOut (x := nI 0) (tgt := 69) (by decide +kernel : decode prog_10_method_98_code 4 = .ok (.tableswitch 65 2 4 #[28, 48, 34], 28)) (by decide) (by decide) ?_
  refine g_aload_n (by decide +kernel : decode prog_10_method_98_code 69 = .ok (.aload_n 0, 1)) rfl ?_
  refine g_iload_n (by decide +kernel : decode prog_10_method_98_code 70 = .ok (.iload_n 1, 1)) rfl ?_
  refine g_callVI [.int x] (by decide +kernel : decode prog_10_method_98_code 71 = .ok (.invokevirtual 291, 3)) lk_Md_291 (m_countsPlain σ B r x hn (by omega)) rfl rfl rfl rfl (Nat.le_of_ble_eq_true rfl) (Nat.le_of_ble_eq_true rfl) (fun r71 s71 h71 => ?_)
  obtain ⟨rfl, rfl⟩ := h71
  exact g_iret hR (by decide +kernel : decode prog_10_method_98_code 74 = .ok (.ireturn, 1)) rfl ⟨_, rfl, ⟨rfl, rfl⟩⟩
set_option maxRecDepth 20000 in
theorem m_callsPlain_0 (σ : Store) (B : Row) (r : Nat) (x : Int32) {n a : Nat} (hk : σ 0 23 = nI 0) (hn : σ 0 24 = nI n) (ha : σ 0 25 = nI a) (hr : r ≤ 14) : Ct ΛM mt_Md_callsPlain 4 [.ref 0, .int x] (aS σ B r 0) (PF (cV 0 n x * nI 2 - nI a) (aS σ (wl (upd B r (nI 11)) (r + 1) (cC 0)) (r + 1 + 1) 0)) := by
  refine Ct.of (by decide) (Nat.le_of_ble_eq_true rfl) (fun X hR => ?_)
  show G (ΛM, mt_Md_callsPlain, 4) X (aS σ B r 0) [some (.ref 0), some (.int x)] [] 0
  refine g_aload_n (by decide +kernel : decode prog_10_method_99_code 0 = .ok (.aload_n 0, 1)) rfl ?_
  refine g_bipush (v := nI 11) (by decide +kernel : decode prog_10_method_99_code 1 = .ok (.bipush 11, 2)) (by decide) ?_
  refine g_callVV [.int (nI 11)] (by decide +kernel : decode prog_10_method_99_code 3 = .ok (.invokevirtual 285, 3)) lk_Md_285 (m_runs σ B r 0 (nI 11) (by omega)) rfl rfl rfl rfl (Nat.le_of_ble_eq_true rfl) (Nat.le_of_ble_eq_true rfl) (fun s3 h3 => ?_)
  obtain rfl := h3
  refine g_aload_n (by decide +kernel : decode prog_10_method_99_code 6 = .ok (.aload_n 0, 1)) rfl ?_
  refine g_iload_n (by decide +kernel : decode prog_10_method_99_code 7 = .ok (.iload_n 1, 1)) rfl ?_
  refine g_callVI [.int x] (by decide +kernel : decode prog_10_method_99_code 8 = .ok (.invokevirtual 300, 3)) lk_Md_300 (m_counts_0 σ (upd B r (nI 11)) (r + 1) x hk hn ha (by omega)) rfl rfl rfl rfl (Nat.le_of_ble_eq_true rfl) (Nat.le_of_ble_eq_true rfl) (fun r8 s8 h8 => ?_)
  obtain ⟨rfl, rfl⟩ := h8
  refine g_iconst (v := nI 2) (by decide +kernel : decode prog_10_method_99_code 11 = .ok (.iconst 2, 1)) (by decide) ?_
  refine g_imul (by decide +kernel : decode prog_10_method_99_code 12 = .ok (.imul, 1)) ?_
  refine g_aload_n (by decide +kernel : decode prog_10_method_99_code 13 = .ok (.aload_n 0, 1)) rfl ?_
  refine g_getI (by decide +kernel : decode prog_10_method_99_code 14 = .ok (.getfield 303, 3)) fl_Md_303.get rfl rfl ?_
  refine g_top (w := nI a) (ha) ?_
  refine g_isub (by decide +kernel : decode prog_10_method_99_code 17 = .ok (.isub, 1)) ?_
  exact g_iret hR (by decide +kernel : decode prog_10_method_99_code 18 = .ok (.ireturn, 1)) rfl ⟨_, rfl, ⟨rfl, rfl⟩⟩
set_option maxRecDepth 20000 in
theorem m_calls_0 (σ : Store) (B : Row) (r : Nat) (x : Int32) {n a : Nat} (hk : σ 0 23 = nI 0) (hn : σ 0 24 = nI n) (ha : σ 0 25 = nI a) (hr : r ≤ 8) : Ct ΛM mt_Md_calls 5 [.ref 0, .int x] (aS σ B r 0) (PF (lV 0 n a x) (aS σ (wl B r (lC 0)) (r + 2) 0)) := by
  refine Ct.of (by decide) (Nat.le_of_ble_eq_true rfl) (fun X hR => ?_)
  show G (ΛM, mt_Md_calls, 5) X (aS σ B r 0) [some (.ref 0), some (.int x), none] [] 0
  refine g_aload_n (by decide +kernel : decode prog_10_method_100_code 0 = .ok (.aload_n 0, 1)) rfl ?_
  refine g_getI (by decide +kernel : decode prog_10_method_100_code 1 = .ok (.getfield 294, 3)) fl_Md_294.get rfl rfl ?_
  refine g_top (w := nI 0) (hk) ?_
  refine g_iconst (v := nI 1) (by decide +kernel : decode prog_10_method_100_code 4 = .ok (.iconst 1, 1)) (by decide) ?_
  refine g_icmp_eqN (tgt := 16) (by decide +kernel : decode prog_10_method_100_code 5 = .ok (.if_icmp .eq 11, 3)) (by decide) (by decide) (by decide) (fun h => False.elim (by revert h; decide)) (fun _ => ?_)
  refine g_aload_n (by decide +kernel : decode prog_10_method_100_code 8 = .ok (.aload_n 0, 1)) rfl ?_
  refine g_getI (by decide +kernel : decode prog_10_method_100_code 9 = .ok (.getfield 294, 3)) fl_Md_294.get rfl rfl ?_
  refine g_top (w := nI 0) (hk) ?_
  refine g_iconst (v := nI 3) (by decide +kernel : decode prog_10_method_100_code 12 = .ok (.iconst 3, 1)) (by decide) ?_
  refine g_icmp_neN (tgt := 30) (by decide +kernel : decode prog_10_method_100_code 13 = .ok (.if_icmp .ne 17, 3)) (by decide) (by decide) (by decide) (fun _ => ?_) (fun h => False.elim (by revert h; decide))
  refine g_aload_n (by decide +kernel : decode prog_10_method_100_code 30 = .ok (.aload_n 0, 1)) rfl ?_
  refine g_getI (by decide +kernel : decode prog_10_method_100_code 31 = .ok (.getfield 294, 3)) fl_Md_294.get rfl rfl ?_
  refine g_top (w := nI 0) (hk) ?_
  refine g_iconst (v := nI 4) (by decide +kernel : decode prog_10_method_100_code 34 = .ok (.iconst 4, 1)) (by decide) ?_
  refine g_icmp_neN (tgt := 61) (by decide +kernel : decode prog_10_method_100_code 35 = .ok (.if_icmp .ne 26, 3)) (by decide) (by decide) (by decide) (fun _ => ?_) (fun h => False.elim (by revert h; decide))
  refine g_aload_n (by decide +kernel : decode prog_10_method_100_code 61 = .ok (.aload_n 0, 1)) rfl ?_
  refine g_iload_n (by decide +kernel : decode prog_10_method_100_code 62 = .ok (.iload_n 1, 1)) rfl ?_
  refine g_callVI [.int x] (by decide +kernel : decode prog_10_method_100_code 63 = .ok (.invokevirtual 306, 3)) lk_Md_306 (m_callsPlain_0 σ B r x hk hn ha (by omega)) rfl rfl rfl rfl (Nat.le_of_ble_eq_true rfl) (Nat.le_of_ble_eq_true rfl) (fun r63 s63 h63 => ?_)
  obtain ⟨rfl, rfl⟩ := h63
  exact g_iret hR (by decide +kernel : decode prog_10_method_100_code 66 = .ok (.ireturn, 1)) rfl ⟨_, rfl, ⟨rfl, rfl⟩⟩
set_option maxRecDepth 20000 in
theorem m_counts_1 (σ : Store) (B : Row) (r : Nat) (x : Int32) {n a : Nat} (hk : σ 0 23 = nI 1) (hn : σ 0 24 = nI n) (ha : σ 0 25 = nI a) (hr : r ≤ 15) : Ct ΛM mt_Md_counts 3 [.ref 0, .int x] (aS σ B r 0) (PF (cV 1 n x) (aS σ (wl B r (cC 1)) (r + 1) 0)) := by
  refine Ct.of (by decide) (Nat.le_of_ble_eq_true rfl) (fun X hR => ?_)
  show G (ΛM, mt_Md_counts, 3) X (aS σ B r 0) [some (.ref 0), some (.int x)] [] 0
  refine g_aload_n (by decide +kernel : decode prog_10_method_98_code 0 = .ok (.aload_n 0, 1)) rfl ?_
  refine g_getI (by decide +kernel : decode prog_10_method_98_code 1 = .ok (.getfield 294, 3)) fl_Md_294.get rfl rfl ?_
  refine g_top (w := nI 1) (hk) ?_
  refine g_tableOut (x := nI 1) (tgt := 69) (by decide +kernel : decode prog_10_method_98_code 4 = .ok (.tableswitch 65 2 4 #[28, 48, 34], 28)) (by decide) (by decide) ?_
  refine g_aload_n (by decide +kernel : decode prog_10_method_98_code 69 = .ok (.aload_n 0, 1)) rfl ?_
  refine g_iload_n (by decide +kernel : decode prog_10_method_98_code 70 = .ok (.iload_n 1, 1)) rfl ?_
  refine g_callVI [.int x] (by decide +kernel : decode prog_10_method_98_code 71 = .ok (.invokevirtual 291, 3)) lk_Md_291 (m_countsPlain σ B r x hn (by omega)) rfl rfl rfl rfl (Nat.le_of_ble_eq_true rfl) (Nat.le_of_ble_eq_true rfl) (fun r71 s71 h71 => ?_)
  obtain ⟨rfl, rfl⟩ := h71
  exact g_iret hR (by decide +kernel : decode prog_10_method_98_code 74 = .ok (.ireturn, 1)) rfl ⟨_, rfl, ⟨rfl, rfl⟩⟩
set_option maxRecDepth 20000 in
theorem m_callsPlain_1 (σ : Store) (B : Row) (r : Nat) (x : Int32) {n a : Nat} (hk : σ 0 23 = nI 1) (hn : σ 0 24 = nI n) (ha : σ 0 25 = nI a) (hr : r ≤ 14) : Ct ΛM mt_Md_callsPlain 4 [.ref 0, .int x] (aS σ B r 0) (PF (cV 1 n x * nI 2 - nI a) (aS σ (wl (upd B r (nI 11)) (r + 1) (cC 1)) (r + 1 + 1) 0)) := by
  refine Ct.of (by decide) (Nat.le_of_ble_eq_true rfl) (fun X hR => ?_)
  show G (ΛM, mt_Md_callsPlain, 4) X (aS σ B r 0) [some (.ref 0), some (.int x)] [] 0
  refine g_aload_n (by decide +kernel : decode prog_10_method_99_code 0 = .ok (.aload_n 0, 1)) rfl ?_
  refine g_bipush (v := nI 11) (by decide +kernel : decode prog_10_method_99_code 1 = .ok (.bipush 11, 2)) (by decide) ?_
  refine g_callVV [.int (nI 11)] (by decide +kernel : decode prog_10_method_99_code 3 = .ok (.invokevirtual 285, 3)) lk_Md_285 (m_runs σ B r 0 (nI 11) (by omega)) rfl rfl rfl rfl (Nat.le_of_ble_eq_true rfl) (Nat.le_of_ble_eq_true rfl) (fun s3 h3 => ?_)
  obtain rfl := h3
  refine g_aload_n (by decide +kernel : decode prog_10_method_99_code 6 = .ok (.aload_n 0, 1)) rfl ?_
  refine g_iload_n (by decide +kernel : decode prog_10_method_99_code 7 = .ok (.iload_n 1, 1)) rfl ?_
  refine g_callVI [.int x] (by decide +kernel : decode prog_10_method_99_code 8 = .ok (.invokevirtual 300, 3)) lk_Md_300 (m_counts_1 σ (upd B r (nI 11)) (r + 1) x hk hn ha (by omega)) rfl rfl rfl rfl (Nat.le_of_ble_eq_true rfl) (Nat.le_of_ble_eq_true rfl) (fun r8 s8 h8 => ?_)
  obtain ⟨rfl, rfl⟩ := h8
  refine g_iconst (v := nI 2) (by decide +kernel : decode prog_10_method_99_code 11 = .ok (.iconst 2, 1)) (by decide) ?_
  refine g_imul (by decide +kernel : decode prog_10_method_99_code 12 = .ok (.imul, 1)) ?_
  refine g_aload_n (by decide +kernel : decode prog_10_method_99_code 13 = .ok (.aload_n 0, 1)) rfl ?_
  refine g_getI (by decide +kernel : decode prog_10_method_99_code 14 = .ok (.getfield 303, 3)) fl_Md_303.get rfl rfl ?_
  refine g_top (w := nI a) (ha) ?_
  refine g_isub (by decide +kernel : decode prog_10_method_99_code 17 = .ok (.isub, 1)) ?_
  exact g_iret hR (by decide +kernel : decode prog_10_method_99_code 18 = .ok (.ireturn, 1)) rfl ⟨_, rfl, ⟨rfl, rfl⟩⟩
set_option maxRecDepth 20000 in
theorem m_calls_1 (σ : Store) (B : Row) (r : Nat) (x : Int32) {n a : Nat} (hk : σ 0 23 = nI 1) (hn : σ 0 24 = nI n) (ha : σ 0 25 = nI a) (hr : r ≤ 8) : Ct ΛM mt_Md_calls 5 [.ref 0, .int x] (aS σ B r 0) (PF (lV 1 n a x) (aS σ (wl B r (lC 1)) (r + 3) 0)) := by
  refine Ct.of (by decide) (Nat.le_of_ble_eq_true rfl) (fun X hR => ?_)
  show G (ΛM, mt_Md_calls, 5) X (aS σ B r 0) [some (.ref 0), some (.int x), none] [] 0
  refine g_aload_n (by decide +kernel : decode prog_10_method_100_code 0 = .ok (.aload_n 0, 1)) rfl ?_
  refine g_getI (by decide +kernel : decode prog_10_method_100_code 1 = .ok (.getfield 294, 3)) fl_Md_294.get rfl rfl ?_
  refine g_top (w := nI 1) (hk) ?_
  refine g_iconst (v := nI 1) (by decide +kernel : decode prog_10_method_100_code 4 = .ok (.iconst 1, 1)) (by decide) ?_
  refine g_icmp_eqN (tgt := 16) (by decide +kernel : decode prog_10_method_100_code 5 = .ok (.if_icmp .eq 11, 3)) (by decide) (by decide) (by decide) (fun _ => ?_) (fun h => False.elim (by revert h; decide))
  refine g_aload_n (by decide +kernel : decode prog_10_method_100_code 16 = .ok (.aload_n 0, 1)) rfl ?_
  refine g_bipush (v := nI 20) (by decide +kernel : decode prog_10_method_100_code 17 = .ok (.bipush 20, 2)) (by decide) ?_
  refine g_callVV [.int (nI 20)] (by decide +kernel : decode prog_10_method_100_code 19 = .ok (.invokevirtual 285, 3)) lk_Md_285 (m_runs σ B r 0 (nI 20) (by omega)) rfl rfl rfl rfl (Nat.le_of_ble_eq_true rfl) (Nat.le_of_ble_eq_true rfl) (fun s19 h19 => ?_)
  obtain rfl := h19
  refine g_aload_n (by decide +kernel : decode prog_10_method_100_code 22 = .ok (.aload_n 0, 1)) rfl ?_
  refine g_iload_n (by decide +kernel : decode prog_10_method_100_code 23 = .ok (.iload_n 1, 1)) rfl ?_
  refine g_callVI [.int x] (by decide +kernel : decode prog_10_method_100_code 24 = .ok (.invokevirtual 306, 3)) lk_Md_306 (m_callsPlain_1 σ (upd B r (nI 20)) (r + 1) x hk hn ha (by omega)) rfl rfl rfl rfl (Nat.le_of_ble_eq_true rfl) (Nat.le_of_ble_eq_true rfl) (fun r24 s24 h24 => ?_)
  obtain ⟨rfl, rfl⟩ := h24
  refine g_iconst (v := nI 5) (by decide +kernel : decode prog_10_method_100_code 27 = .ok (.iconst 5, 1)) (by decide) ?_
  refine g_iadd (by decide +kernel : decode prog_10_method_100_code 28 = .ok (.iadd, 1)) ?_
  exact g_iret hR (by decide +kernel : decode prog_10_method_100_code 29 = .ok (.ireturn, 1)) rfl ⟨_, rfl, ⟨rfl, rfl⟩⟩
set_option maxRecDepth 20000 in
theorem m_counts_2 (σ : Store) (B : Row) (r : Nat) (x : Int32) {n a : Nat} (hk : σ 0 23 = nI 2) (hn : σ 0 24 = nI n) (ha : σ 0 25 = nI a) (hr : r ≤ 15) : Ct ΛM mt_Md_counts 3 [.ref 0, .int x] (aS σ B r 0) (PF (cV 2 n x) (aS σ (wl B r (cC 2)) (r + 2) 0)) := by
  refine Ct.of (by decide) (Nat.le_of_ble_eq_true rfl) (fun X hR => ?_)
  show G (ΛM, mt_Md_counts, 3) X (aS σ B r 0) [some (.ref 0), some (.int x)] [] 0
  refine g_aload_n (by decide +kernel : decode prog_10_method_98_code 0 = .ok (.aload_n 0, 1)) rfl ?_
  refine g_getI (by decide +kernel : decode prog_10_method_98_code 1 = .ok (.getfield 294, 3)) fl_Md_294.get rfl rfl ?_
  refine g_top (w := nI 2) (hk) ?_
  refine g_tableIn (x := nI 2) (off := 28) (tgt := 32) (by decide +kernel : decode prog_10_method_98_code 4 = .ok (.tableswitch 65 2 4 #[28, 48, 34], 28)) (by decide) (by decide) rfl (by decide) ?_
  refine g_aload_n (by decide +kernel : decode prog_10_method_98_code 32 = .ok (.aload_n 0, 1)) rfl ?_
  refine g_iload_n (by decide +kernel : decode prog_10_method_98_code 33 = .ok (.iload_n 1, 1)) rfl ?_
  refine g_callVI [.int x] (by decide +kernel : decode prog_10_method_98_code 34 = .ok (.invokevirtual 297, 3)) lk_Md_297 (m_countsOfKeeper σ B r x hn (by omega)) rfl rfl rfl rfl (Nat.le_of_ble_eq_true rfl) (Nat.le_of_ble_eq_true rfl) (fun r34 s34 h34 => ?_)
  obtain ⟨rfl, rfl⟩ := h34
  exact g_iret hR (by decide +kernel : decode prog_10_method_98_code 37 = .ok (.ireturn, 1)) rfl ⟨_, rfl, ⟨rfl, rfl⟩⟩
set_option maxRecDepth 20000 in
theorem m_callsPlain_2 (σ : Store) (B : Row) (r : Nat) (x : Int32) {n a : Nat} (hk : σ 0 23 = nI 2) (hn : σ 0 24 = nI n) (ha : σ 0 25 = nI a) (hr : r ≤ 14) : Ct ΛM mt_Md_callsPlain 4 [.ref 0, .int x] (aS σ B r 0) (PF (cV 2 n x * nI 2 - nI a) (aS σ (wl (upd B r (nI 11)) (r + 1) (cC 2)) (r + 1 + 2) 0)) := by
  refine Ct.of (by decide) (Nat.le_of_ble_eq_true rfl) (fun X hR => ?_)
  show G (ΛM, mt_Md_callsPlain, 4) X (aS σ B r 0) [some (.ref 0), some (.int x)] [] 0
  refine g_aload_n (by decide +kernel : decode prog_10_method_99_code 0 = .ok (.aload_n 0, 1)) rfl ?_
  refine g_bipush (v := nI 11) (by decide +kernel : decode prog_10_method_99_code 1 = .ok (.bipush 11, 2)) (by decide) ?_
  refine g_callVV [.int (nI 11)] (by decide +kernel : decode prog_10_method_99_code 3 = .ok (.invokevirtual 285, 3)) lk_Md_285 (m_runs σ B r 0 (nI 11) (by omega)) rfl rfl rfl rfl (Nat.le_of_ble_eq_true rfl) (Nat.le_of_ble_eq_true rfl) (fun s3 h3 => ?_)
  obtain rfl := h3
  refine g_aload_n (by decide +kernel : decode prog_10_method_99_code 6 = .ok (.aload_n 0, 1)) rfl ?_
  refine g_iload_n (by decide +kernel : decode prog_10_method_99_code 7 = .ok (.iload_n 1, 1)) rfl ?_
  refine g_callVI [.int x] (by decide +kernel : decode prog_10_method_99_code 8 = .ok (.invokevirtual 300, 3)) lk_Md_300 (m_counts_2 σ (upd B r (nI 11)) (r + 1) x hk hn ha (by omega)) rfl rfl rfl rfl (Nat.le_of_ble_eq_true rfl) (Nat.le_of_ble_eq_true rfl) (fun r8 s8 h8 => ?_)
  obtain ⟨rfl, rfl⟩ := h8
  refine g_iconst (v := nI 2) (by decide +kernel : decode prog_10_method_99_code 11 = .ok (.iconst 2, 1)) (by decide) ?_
  refine g_imul (by decide +kernel : decode prog_10_method_99_code 12 = .ok (.imul, 1)) ?_
  refine g_aload_n (by decide +kernel : decode prog_10_method_99_code 13 = .ok (.aload_n 0, 1)) rfl ?_
  refine g_getI (by decide +kernel : decode prog_10_method_99_code 14 = .ok (.getfield 303, 3)) fl_Md_303.get rfl rfl ?_
  refine g_top (w := nI a) (ha) ?_
  refine g_isub (by decide +kernel : decode prog_10_method_99_code 17 = .ok (.isub, 1)) ?_
  exact g_iret hR (by decide +kernel : decode prog_10_method_99_code 18 = .ok (.ireturn, 1)) rfl ⟨_, rfl, ⟨rfl, rfl⟩⟩
set_option maxRecDepth 20000 in
theorem m_calls_2 (σ : Store) (B : Row) (r : Nat) (x : Int32) {n a : Nat} (hk : σ 0 23 = nI 2) (hn : σ 0 24 = nI n) (ha : σ 0 25 = nI a) (hr : r ≤ 8) : Ct ΛM mt_Md_calls 5 [.ref 0, .int x] (aS σ B r 0) (PF (lV 2 n a x) (aS σ (wl B r (lC 2)) (r + 3) 0)) := by
  refine Ct.of (by decide) (Nat.le_of_ble_eq_true rfl) (fun X hR => ?_)
  show G (ΛM, mt_Md_calls, 5) X (aS σ B r 0) [some (.ref 0), some (.int x), none] [] 0
  refine g_aload_n (by decide +kernel : decode prog_10_method_100_code 0 = .ok (.aload_n 0, 1)) rfl ?_
  refine g_getI (by decide +kernel : decode prog_10_method_100_code 1 = .ok (.getfield 294, 3)) fl_Md_294.get rfl rfl ?_
  refine g_top (w := nI 2) (hk) ?_
  refine g_iconst (v := nI 1) (by decide +kernel : decode prog_10_method_100_code 4 = .ok (.iconst 1, 1)) (by decide) ?_
  refine g_icmp_eqN (tgt := 16) (by decide +kernel : decode prog_10_method_100_code 5 = .ok (.if_icmp .eq 11, 3)) (by decide) (by decide) (by decide) (fun h => False.elim (by revert h; decide)) (fun _ => ?_)
  refine g_aload_n (by decide +kernel : decode prog_10_method_100_code 8 = .ok (.aload_n 0, 1)) rfl ?_
  refine g_getI (by decide +kernel : decode prog_10_method_100_code 9 = .ok (.getfield 294, 3)) fl_Md_294.get rfl rfl ?_
  refine g_top (w := nI 2) (hk) ?_
  refine g_iconst (v := nI 3) (by decide +kernel : decode prog_10_method_100_code 12 = .ok (.iconst 3, 1)) (by decide) ?_
  refine g_icmp_neN (tgt := 30) (by decide +kernel : decode prog_10_method_100_code 13 = .ok (.if_icmp .ne 17, 3)) (by decide) (by decide) (by decide) (fun _ => ?_) (fun h => False.elim (by revert h; decide))
  refine g_aload_n (by decide +kernel : decode prog_10_method_100_code 30 = .ok (.aload_n 0, 1)) rfl ?_
  refine g_getI (by decide +kernel : decode prog_10_method_100_code 31 = .ok (.getfield 294, 3)) fl_Md_294.get rfl rfl ?_
  refine g_top (w := nI 2) (hk) ?_
  refine g_iconst (v := nI 4) (by decide +kernel : decode prog_10_method_100_code 34 = .ok (.iconst 4, 1)) (by decide) ?_
  refine g_icmp_neN (tgt := 61) (by decide +kernel : decode prog_10_method_100_code 35 = .ok (.if_icmp .ne 26, 3)) (by decide) (by decide) (by decide) (fun _ => ?_) (fun h => False.elim (by revert h; decide))
  refine g_aload_n (by decide +kernel : decode prog_10_method_100_code 61 = .ok (.aload_n 0, 1)) rfl ?_
  refine g_iload_n (by decide +kernel : decode prog_10_method_100_code 62 = .ok (.iload_n 1, 1)) rfl ?_
  refine g_callVI [.int x] (by decide +kernel : decode prog_10_method_100_code 63 = .ok (.invokevirtual 306, 3)) lk_Md_306 (m_callsPlain_2 σ B r x hk hn ha (by omega)) rfl rfl rfl rfl (Nat.le_of_ble_eq_true rfl) (Nat.le_of_ble_eq_true rfl) (fun r63 s63 h63 => ?_)
  obtain ⟨rfl, rfl⟩ := h63
  exact g_iret hR (by decide +kernel : decode prog_10_method_100_code 66 = .ok (.ireturn, 1)) rfl ⟨_, rfl, ⟨rfl, rfl⟩⟩
set_option maxRecDepth 20000 in
theorem m_counts_3 (σ : Store) (B : Row) (r : Nat) (x : Int32) {n a : Nat} (hk : σ 0 23 = nI 3) (hn : σ 0 24 = nI n) (ha : σ 0 25 = nI a) (hr : r ≤ 15) : Ct ΛM mt_Md_counts 3 [.ref 0, .int x] (aS σ B r 0) (PF (cV 3 n x) (aS σ (wl B r (cC 3)) (r + 2) 0)) := by
  refine Ct.of (by decide) (Nat.le_of_ble_eq_true rfl) (fun X hR => ?_)
  show G (ΛM, mt_Md_counts, 3) X (aS σ B r 0) [some (.ref 0), some (.int x)] [] 0
  refine g_aload_n (by decide +kernel : decode prog_10_method_98_code 0 = .ok (.aload_n 0, 1)) rfl ?_
  refine g_getI (by decide +kernel : decode prog_10_method_98_code 1 = .ok (.getfield 294, 3)) fl_Md_294.get rfl rfl ?_
  refine g_top (w := nI 3) (hk) ?_
  refine g_tableIn (x := nI 3) (off := 48) (tgt := 52) (by decide +kernel : decode prog_10_method_98_code 4 = .ok (.tableswitch 65 2 4 #[28, 48, 34], 28)) (by decide) (by decide) rfl (by decide) ?_
  refine g_aload_n (by decide +kernel : decode prog_10_method_98_code 52 = .ok (.aload_n 0, 1)) rfl ?_
  refine g_bipush (v := nI 51) (by decide +kernel : decode prog_10_method_98_code 53 = .ok (.bipush 51, 2)) (by decide) ?_
  refine g_callVV [.int (nI 51)] (by decide +kernel : decode prog_10_method_98_code 55 = .ok (.invokevirtual 285, 3)) lk_Md_285 (m_runs σ B r 0 (nI 51) (by omega)) rfl rfl rfl rfl (Nat.le_of_ble_eq_true rfl) (Nat.le_of_ble_eq_true rfl) (fun s55 h55 => ?_)
  obtain rfl := h55
  refine g_aload_n (by decide +kernel : decode prog_10_method_98_code 58 = .ok (.aload_n 0, 1)) rfl ?_
  refine g_iload_n (by decide +kernel : decode prog_10_method_98_code 59 = .ok (.iload_n 1, 1)) rfl ?_
  refine g_callVI [.int x] (by decide +kernel : decode prog_10_method_98_code 60 = .ok (.invokevirtual 291, 3)) lk_Md_291 (m_countsPlain σ (upd B r (nI 51)) (r + 1) x hn (by omega)) rfl rfl rfl rfl (Nat.le_of_ble_eq_true rfl) (Nat.le_of_ble_eq_true rfl) (fun r60 s60 h60 => ?_)
  obtain ⟨rfl, rfl⟩ := h60
  refine g_aload_n (by decide +kernel : decode prog_10_method_98_code 63 = .ok (.aload_n 0, 1)) rfl ?_
  refine g_getI (by decide +kernel : decode prog_10_method_98_code 64 = .ok (.getfield 288, 3)) fl_Md_288.get rfl rfl ?_
  refine g_top (w := nI n) (hn) ?_
  refine g_isub (by decide +kernel : decode prog_10_method_98_code 67 = .ok (.isub, 1)) ?_
  exact g_iret hR (by decide +kernel : decode prog_10_method_98_code 68 = .ok (.ireturn, 1)) rfl ⟨_, rfl, ⟨rfl, rfl⟩⟩
set_option maxRecDepth 20000 in
theorem m_callsPlain_3 (σ : Store) (B : Row) (r : Nat) (x : Int32) {n a : Nat} (hk : σ 0 23 = nI 3) (hn : σ 0 24 = nI n) (ha : σ 0 25 = nI a) (hr : r ≤ 14) : Ct ΛM mt_Md_callsPlain 4 [.ref 0, .int x] (aS σ B r 0) (PF (cV 3 n x * nI 2 - nI a) (aS σ (wl (upd B r (nI 11)) (r + 1) (cC 3)) (r + 1 + 2) 0)) := by
  refine Ct.of (by decide) (Nat.le_of_ble_eq_true rfl) (fun X hR => ?_)
  show G (ΛM, mt_Md_callsPlain, 4) X (aS σ B r 0) [some (.ref 0), some (.int x)] [] 0
  refine g_aload_n (by decide +kernel : decode prog_10_method_99_code 0 = .ok (.aload_n 0, 1)) rfl ?_
  refine g_bipush (v := nI 11) (by decide +kernel : decode prog_10_method_99_code 1 = .ok (.bipush 11, 2)) (by decide) ?_
  refine g_callVV [.int (nI 11)] (by decide +kernel : decode prog_10_method_99_code 3 = .ok (.invokevirtual 285, 3)) lk_Md_285 (m_runs σ B r 0 (nI 11) (by omega)) rfl rfl rfl rfl (Nat.le_of_ble_eq_true rfl) (Nat.le_of_ble_eq_true rfl) (fun s3 h3 => ?_)
  obtain rfl := h3
  refine g_aload_n (by decide +kernel : decode prog_10_method_99_code 6 = .ok (.aload_n 0, 1)) rfl ?_
  refine g_iload_n (by decide +kernel : decode prog_10_method_99_code 7 = .ok (.iload_n 1, 1)) rfl ?_
  refine g_callVI [.int x] (by decide +kernel : decode prog_10_method_99_code 8 = .ok (.invokevirtual 300, 3)) lk_Md_300 (m_counts_3 σ (upd B r (nI 11)) (r + 1) x hk hn ha (by omega)) rfl rfl rfl rfl (Nat.le_of_ble_eq_true rfl) (Nat.le_of_ble_eq_true rfl) (fun r8 s8 h8 => ?_)
  obtain ⟨rfl, rfl⟩ := h8
  refine g_iconst (v := nI 2) (by decide +kernel : decode prog_10_method_99_code 11 = .ok (.iconst 2, 1)) (by decide) ?_
  refine g_imul (by decide +kernel : decode prog_10_method_99_code 12 = .ok (.imul, 1)) ?_
  refine g_aload_n (by decide +kernel : decode prog_10_method_99_code 13 = .ok (.aload_n 0, 1)) rfl ?_
  refine g_getI (by decide +kernel : decode prog_10_method_99_code 14 = .ok (.getfield 303, 3)) fl_Md_303.get rfl rfl ?_
  refine g_top (w := nI a) (ha) ?_
  refine g_isub (by decide +kernel : decode prog_10_method_99_code 17 = .ok (.isub, 1)) ?_
  exact g_iret hR (by decide +kernel : decode prog_10_method_99_code 18 = .ok (.ireturn, 1)) rfl ⟨_, rfl, ⟨rfl, rfl⟩⟩
set_option maxRecDepth 20000 in
theorem m_calls_3 (σ : Store) (B : Row) (r : Nat) (x : Int32) {n a : Nat} (hk : σ 0 23 = nI 3) (hn : σ 0 24 = nI n) (ha : σ 0 25 = nI a) (hr : r ≤ 8) : Ct ΛM mt_Md_calls 5 [.ref 0, .int x] (aS σ B r 0) (PF (lV 3 n a x) (aS σ (wl B r (lC 3)) (r + 4) 0)) := by
  refine Ct.of (by decide) (Nat.le_of_ble_eq_true rfl) (fun X hR => ?_)
  show G (ΛM, mt_Md_calls, 5) X (aS σ B r 0) [some (.ref 0), some (.int x), none] [] 0
  refine g_aload_n (by decide +kernel : decode prog_10_method_100_code 0 = .ok (.aload_n 0, 1)) rfl ?_
  refine g_getI (by decide +kernel : decode prog_10_method_100_code 1 = .ok (.getfield 294, 3)) fl_Md_294.get rfl rfl ?_
  refine g_top (w := nI 3) (hk) ?_
  refine g_iconst (v := nI 1) (by decide +kernel : decode prog_10_method_100_code 4 = .ok (.iconst 1, 1)) (by decide) ?_
  refine g_icmp_eqN (tgt := 16) (by decide +kernel : decode prog_10_method_100_code 5 = .ok (.if_icmp .eq 11, 3)) (by decide) (by decide) (by decide) (fun h => False.elim (by revert h; decide)) (fun _ => ?_)
  refine g_aload_n (by decide +kernel : decode prog_10_method_100_code 8 = .ok (.aload_n 0, 1)) rfl ?_
  refine g_getI (by decide +kernel : decode prog_10_method_100_code 9 = .ok (.getfield 294, 3)) fl_Md_294.get rfl rfl ?_
  refine g_top (w := nI 3) (hk) ?_
  refine g_iconst (v := nI 3) (by decide +kernel : decode prog_10_method_100_code 12 = .ok (.iconst 3, 1)) (by decide) ?_
  refine g_icmp_neN (tgt := 30) (by decide +kernel : decode prog_10_method_100_code 13 = .ok (.if_icmp .ne 17, 3)) (by decide) (by decide) (by decide) (fun h => False.elim (by revert h; decide)) (fun _ => ?_)
  refine g_aload_n (by decide +kernel : decode prog_10_method_100_code 16 = .ok (.aload_n 0, 1)) rfl ?_
  refine g_bipush (v := nI 20) (by decide +kernel : decode prog_10_method_100_code 17 = .ok (.bipush 20, 2)) (by decide) ?_
  refine g_callVV [.int (nI 20)] (by decide +kernel : decode prog_10_method_100_code 19 = .ok (.invokevirtual 285, 3)) lk_Md_285 (m_runs σ B r 0 (nI 20) (by omega)) rfl rfl rfl rfl (Nat.le_of_ble_eq_true rfl) (Nat.le_of_ble_eq_true rfl) (fun s19 h19 => ?_)
  obtain rfl := h19
  refine g_aload_n (by decide +kernel : decode prog_10_method_100_code 22 = .ok (.aload_n 0, 1)) rfl ?_
  refine g_iload_n (by decide +kernel : decode prog_10_method_100_code 23 = .ok (.iload_n 1, 1)) rfl ?_
  refine g_callVI [.int x] (by decide +kernel : decode prog_10_method_100_code 24 = .ok (.invokevirtual 306, 3)) lk_Md_306 (m_callsPlain_3 σ (upd B r (nI 20)) (r + 1) x hk hn ha (by omega)) rfl rfl rfl rfl (Nat.le_of_ble_eq_true rfl) (Nat.le_of_ble_eq_true rfl) (fun r24 s24 h24 => ?_)
  obtain ⟨rfl, rfl⟩ := h24
  refine g_iconst (v := nI 5) (by decide +kernel : decode prog_10_method_100_code 27 = .ok (.iconst 5, 1)) (by decide) ?_
  refine g_iadd (by decide +kernel : decode prog_10_method_100_code 28 = .ok (.iadd, 1)) ?_
  exact g_iret hR (by decide +kernel : decode prog_10_method_100_code 29 = .ok (.ireturn, 1)) rfl ⟨_, rfl, ⟨rfl, rfl⟩⟩
set_option maxRecDepth 20000 in
theorem m_counts_4 (σ : Store) (B : Row) (r : Nat) (x : Int32) {n a : Nat} (hk : σ 0 23 = nI 4) (hn : σ 0 24 = nI n) (ha : σ 0 25 = nI a) (hr : r ≤ 15) : Ct ΛM mt_Md_counts 3 [.ref 0, .int x] (aS σ B r 0) (PF (cV 4 n x) (aS σ (wl B r (cC 4)) (r + 3) 0)) := by
  refine Ct.of (by decide) (Nat.le_of_ble_eq_true rfl) (fun X hR => ?_)
  show G (ΛM, mt_Md_counts, 3) X (aS σ B r 0) [some (.ref 0), some (.int x)] [] 0
  refine g_aload_n (by decide +kernel : decode prog_10_method_98_code 0 = .ok (.aload_n 0, 1)) rfl ?_
  refine g_getI (by decide +kernel : decode prog_10_method_98_code 1 = .ok (.getfield 294, 3)) fl_Md_294.get rfl rfl ?_
  refine g_top (w := nI 4) (hk) ?_
  refine g_tableIn (x := nI 4) (off := 34) (tgt := 38) (by decide +kernel : decode prog_10_method_98_code 4 = .ok (.tableswitch 65 2 4 #[28, 48, 34], 28)) (by decide) (by decide) rfl (by decide) ?_
  refine g_aload_n (by decide +kernel : decode prog_10_method_98_code 38 = .ok (.aload_n 0, 1)) rfl ?_
  refine g_bipush (v := nI 40) (by decide +kernel : decode prog_10_method_98_code 39 = .ok (.bipush 40, 2)) (by decide) ?_
  refine g_callVV [.int (nI 40)] (by decide +kernel : decode prog_10_method_98_code 41 = .ok (.invokevirtual 285, 3)) lk_Md_285 (m_runs σ B r 0 (nI 40) (by omega)) rfl rfl rfl rfl (Nat.le_of_ble_eq_true rfl) (Nat.le_of_ble_eq_true rfl) (fun s41 h41 => ?_)
  obtain rfl := h41
  refine g_iconst (v := nI 1) (by decide +kernel : decode prog_10_method_98_code 44 = .ok (.iconst 1, 1)) (by decide) ?_
  refine g_aload_n (by decide +kernel : decode prog_10_method_98_code 45 = .ok (.aload_n 0, 1)) rfl ?_
  refine g_iload_n (by decide +kernel : decode prog_10_method_98_code 46 = .ok (.iload_n 1, 1)) rfl ?_
  refine g_callVI [.int x] (by decide +kernel : decode prog_10_method_98_code 47 = .ok (.invokevirtual 297, 3)) lk_Md_297 (m_countsOfKeeper σ (upd B r (nI 40)) (r + 1) x hn (by omega)) rfl rfl rfl rfl (Nat.le_of_ble_eq_true rfl) (Nat.le_of_ble_eq_true rfl) (fun r47 s47 h47 => ?_)
  obtain ⟨rfl, rfl⟩ := h47
  refine g_isub (by decide +kernel : decode prog_10_method_98_code 50 = .ok (.isub, 1)) ?_
  exact g_iret hR (by decide +kernel : decode prog_10_method_98_code 51 = .ok (.ireturn, 1)) rfl ⟨_, rfl, ⟨rfl, rfl⟩⟩
set_option maxRecDepth 20000 in
theorem m_callsPlain_4 (σ : Store) (B : Row) (r : Nat) (x : Int32) {n a : Nat} (hk : σ 0 23 = nI 4) (hn : σ 0 24 = nI n) (ha : σ 0 25 = nI a) (hr : r ≤ 14) : Ct ΛM mt_Md_callsPlain 4 [.ref 0, .int x] (aS σ B r 0) (PF (cV 4 n x * nI 2 - nI a) (aS σ (wl (upd B r (nI 11)) (r + 1) (cC 4)) (r + 1 + 3) 0)) := by
  refine Ct.of (by decide) (Nat.le_of_ble_eq_true rfl) (fun X hR => ?_)
  show G (ΛM, mt_Md_callsPlain, 4) X (aS σ B r 0) [some (.ref 0), some (.int x)] [] 0
  refine g_aload_n (by decide +kernel : decode prog_10_method_99_code 0 = .ok (.aload_n 0, 1)) rfl ?_
  refine g_bipush (v := nI 11) (by decide +kernel : decode prog_10_method_99_code 1 = .ok (.bipush 11, 2)) (by decide) ?_
  refine g_callVV [.int (nI 11)] (by decide +kernel : decode prog_10_method_99_code 3 = .ok (.invokevirtual 285, 3)) lk_Md_285 (m_runs σ B r 0 (nI 11) (by omega)) rfl rfl rfl rfl (Nat.le_of_ble_eq_true rfl) (Nat.le_of_ble_eq_true rfl) (fun s3 h3 => ?_)
  obtain rfl := h3
  refine g_aload_n (by decide +kernel : decode prog_10_method_99_code 6 = .ok (.aload_n 0, 1)) rfl ?_
  refine g_iload_n (by decide +kernel : decode prog_10_method_99_code 7 = .ok (.iload_n 1, 1)) rfl ?_
  refine g_callVI [.int x] (by decide +kernel : decode prog_10_method_99_code 8 = .ok (.invokevirtual 300, 3)) lk_Md_300 (m_counts_4 σ (upd B r (nI 11)) (r + 1) x hk hn ha (by omega)) rfl rfl rfl rfl (Nat.le_of_ble_eq_true rfl) (Nat.le_of_ble_eq_true rfl) (fun r8 s8 h8 => ?_)
  obtain ⟨rfl, rfl⟩ := h8
  refine g_iconst (v := nI 2) (by decide +kernel : decode prog_10_method_99_code 11 = .ok (.iconst 2, 1)) (by decide) ?_
  refine g_imul (by decide +kernel : decode prog_10_method_99_code 12 = .ok (.imul, 1)) ?_
  refine g_aload_n (by decide +kernel : decode prog_10_method_99_code 13 = .ok (.aload_n 0, 1)) rfl ?_
  refine g_getI (by decide +kernel : decode prog_10_method_99_code 14 = .ok (.getfield 303, 3)) fl_Md_303.get rfl rfl ?_
  refine g_top (w := nI a) (ha) ?_
  refine g_isub (by decide +kernel : decode prog_10_method_99_code 17 = .ok (.isub, 1)) ?_
  exact g_iret hR (by decide +kernel : decode prog_10_method_99_code 18 = .ok (.ireturn, 1)) rfl ⟨_, rfl, ⟨rfl, rfl⟩⟩
set_option maxRecDepth 20000 in
theorem m_calls_4 (σ : Store) (B : Row) (r : Nat) (x : Int32) {n a : Nat} (hk : σ 0 23 = nI 4) (hn : σ 0 24 = nI n) (ha : σ 0 25 = nI a) (hr : r ≤ 8) : Ct ΛM mt_Md_calls 5 [.ref 0, .int x] (aS σ B r 0) (PF (lV 4 n a x) (aS σ (wl B r (lC 4)) (r + 8) 0)) := by
  refine Ct.of (by decide) (Nat.le_of_ble_eq_true rfl) (fun X hR => ?_)
  show G (ΛM, mt_Md_calls, 5) X (aS σ B r 0) [some (.ref 0), some (.int x), none] [] 0
  refine g_aload_n (by decide +kernel : decode prog_10_method_100_code 0 = .ok (.aload_n 0, 1)) rfl ?_
  refine g_getI (by decide +kernel : decode prog_10_method_100_code 1 = .ok (.getfield 294, 3)) fl_Md_294.get rfl rfl ?_
  refine g_top (w := nI 4) (hk) ?_
  refine g_iconst (v := nI 1) (by decide +kernel : decode prog_10_method_100_code 4 = .ok (.iconst 1, 1)) (by decide) ?_
  refine g_icmp_eqN (tgt := 16) (by decide +kernel : decode prog_10_method_100_code 5 = .ok (.if_icmp .eq 11, 3)) (by decide) (by decide) (by decide) (fun h => False.elim (by revert h; decide)) (fun _ => ?_)
  refine g_aload_n (by decide +kernel : decode prog_10_method_100_code 8 = .ok (.aload_n 0, 1)) rfl ?_
  refine g_getI (by decide +kernel : decode prog_10_method_100_code 9 = .ok (.getfield 294, 3)) fl_Md_294.get rfl rfl ?_
  refine g_top (w := nI 4) (hk) ?_
  refine g_iconst (v := nI 3) (by decide +kernel : decode prog_10_method_100_code 12 = .ok (.iconst 3, 1)) (by decide) ?_
  refine g_icmp_neN (tgt := 30) (by decide +kernel : decode prog_10_method_100_code 13 = .ok (.if_icmp .ne 17, 3)) (by decide) (by decide) (by decide) (fun _ => ?_) (fun h => False.elim (by revert h; decide))
  refine g_aload_n (by decide +kernel : decode prog_10_method_100_code 30 = .ok (.aload_n 0, 1)) rfl ?_
  refine g_getI (by decide +kernel : decode prog_10_method_100_code 31 = .ok (.getfield 294, 3)) fl_Md_294.get rfl rfl ?_
  refine g_top (w := nI 4) (hk) ?_
  refine g_iconst (v := nI 4) (by decide +kernel : decode prog_10_method_100_code 34 = .ok (.iconst 4, 1)) (by decide) ?_
  refine g_icmp_neN (tgt := 61) (by decide +kernel : decode prog_10_method_100_code 35 = .ok (.if_icmp .ne 26, 3)) (by decide) (by decide) (by decide) (fun h => False.elim (by revert h; decide)) (fun _ => ?_)
  refine g_aload_n (by decide +kernel : decode prog_10_method_100_code 38 = .ok (.aload_n 0, 1)) rfl ?_
  refine g_bipush (v := nI 41) (by decide +kernel : decode prog_10_method_100_code 39 = .ok (.bipush 41, 2)) (by decide) ?_
  refine g_callVV [.int (nI 41)] (by decide +kernel : decode prog_10_method_100_code 41 = .ok (.invokevirtual 285, 3)) lk_Md_285 (m_runs σ B r 0 (nI 41) (by omega)) rfl rfl rfl rfl (Nat.le_of_ble_eq_true rfl) (Nat.le_of_ble_eq_true rfl) (fun s41 h41 => ?_)
  obtain rfl := h41
  refine g_aload_n (by decide +kernel : decode prog_10_method_100_code 44 = .ok (.aload_n 0, 1)) rfl ?_
  refine g_iload_n (by decide +kernel : decode prog_10_method_100_code 45 = .ok (.iload_n 1, 1)) rfl ?_
  refine g_callVI [.int x] (by decide +kernel : decode prog_10_method_100_code 46 = .ok (.invokevirtual 306, 3)) lk_Md_306 (m_callsPlain_4 σ (upd B r (nI 41)) (r + 1) x hk hn ha (by omega)) rfl rfl rfl rfl (Nat.le_of_ble_eq_true rfl) (Nat.le_of_ble_eq_true rfl) (fun r46 s46 h46 => ?_)
  obtain ⟨rfl, rfl⟩ := h46
  refine g_istore_n (L' := [some (.ref 0), some (.int x), some (.int (cV 4 n x * nI 2 - nI a))]) (by decide +kernel : decode prog_10_method_100_code 49 = .ok (.istore_n 2, 1)) (Nat.le_of_ble_eq_true rfl) rfl ?_
  refine g_iload_n (by decide +kernel : decode prog_10_method_100_code 50 = .ok (.iload_n 2, 1)) rfl ?_
  refine g_aload_n (by decide +kernel : decode prog_10_method_100_code 51 = .ok (.aload_n 0, 1)) rfl ?_
  refine g_aload_n (by decide +kernel : decode prog_10_method_100_code 52 = .ok (.aload_n 0, 1)) rfl ?_
  refine g_getI (by decide +kernel : decode prog_10_method_100_code 53 = .ok (.getfield 303, 3)) fl_Md_303.get rfl rfl ?_
  refine g_top (w := nI a) (ha) ?_
  refine g_callVI [.int (nI a)] (by decide +kernel : decode prog_10_method_100_code 56 = .ok (.invokevirtual 300, 3)) lk_Md_300 (m_counts_4 σ (wl (upd (upd B r (nI 41)) (r + 1) (nI 11)) (r + 1 + 1) (cC 4)) (r + 1 + 1 + 3) (nI a) hk hn ha (by omega)) rfl rfl rfl rfl (Nat.le_of_ble_eq_true rfl) (Nat.le_of_ble_eq_true rfl) (fun r56 s56 h56 => ?_)
  obtain ⟨rfl, rfl⟩ := h56
  refine g_iadd (by decide +kernel : decode prog_10_method_100_code 59 = .ok (.iadd, 1)) ?_
  exact g_iret hR (by decide +kernel : decode prog_10_method_100_code 60 = .ok (.ireturn, 1)) rfl ⟨_, rfl, ⟨rfl, rfl⟩⟩
set_option maxRecDepth 20000 in
theorem m_counts_5 (σ : Store) (B : Row) (r : Nat) (x : Int32) {n a : Nat} (hk : σ 0 23 = nI 5) (hn : σ 0 24 = nI n) (ha : σ 0 25 = nI a) (hr : r ≤ 15) : Ct ΛM mt_Md_counts 3 [.ref 0, .int x] (aS σ B r 0) (PF (cV 5 n x) (aS σ (wl B r (cC 5)) (r + 1) 0)) := by
  refine Ct.of (by decide) (Nat.le_of_ble_eq_true rfl) (fun X hR => ?_)
  show G (ΛM, mt_Md_counts, 3) X (aS σ B r 0) [some (.ref 0), some (.int x)] [] 0
  refine g_aload_n (by decide +kernel : decode prog_10_method_98_code 0 = .ok (.aload_n 0, 1)) rfl ?_
  refine g_getI (by decide +kernel : decode prog_10_method_98_code 1 = .ok (.getfield 294, 3)) fl_Md_294.get rfl rfl ?_
  refine g_top (w := nI 5) (hk) ?_
  refine g_tableOut (x := nI 5) (tgt := 69) (by decide +kernel : decode prog_10_method_98_code 4 = .ok (.tableswitch 65 2 4 #[28, 48, 34], 28)) (by decide) (by decide) ?_
  refine g_aload_n (by decide +kernel : decode prog_10_method_98_code 69 = .ok (.aload_n 0, 1)) rfl ?_
  refine g_iload_n (by decide +kernel : decode prog_10_method_98_code 70 = .ok (.iload_n 1, 1)) rfl ?_
  refine g_callVI [.int x] (by decide +kernel : decode prog_10_method_98_code 71 = .ok (.invokevirtual 291, 3)) lk_Md_291 (m_countsPlain σ B r x hn (by omega)) rfl rfl rfl rfl (Nat.le_of_ble_eq_true rfl) (Nat.le_of_ble_eq_true rfl) (fun r71 s71 h71 => ?_)
  obtain ⟨rfl, rfl⟩ := h71
  exact g_iret hR (by decide +kernel : decode prog_10_method_98_code 74 = .ok (.ireturn, 1)) rfl ⟨_, rfl, ⟨rfl, rfl⟩⟩
set_option maxRecDepth 20000 in
theorem m_callsPlain_5 (σ : Store) (B : Row) (r : Nat) (x : Int32) {n a : Nat} (hk : σ 0 23 = nI 5) (hn : σ 0 24 = nI n) (ha : σ 0 25 = nI a) (hr : r ≤ 14) : Ct ΛM mt_Md_callsPlain 4 [.ref 0, .int x] (aS σ B r 0) (PF (cV 5 n x * nI 2 - nI a) (aS σ (wl (upd B r (nI 11)) (r + 1) (cC 5)) (r + 1 + 1) 0)) := by
  refine Ct.of (by decide) (Nat.le_of_ble_eq_true rfl) (fun X hR => ?_)
  show G (ΛM, mt_Md_callsPlain, 4) X (aS σ B r 0) [some (.ref 0), some (.int x)] [] 0
  refine g_aload_n (by decide +kernel : decode prog_10_method_99_code 0 = .ok (.aload_n 0, 1)) rfl ?_
  refine g_bipush (v := nI 11) (by decide +kernel : decode prog_10_method_99_code 1 = .ok (.bipush 11, 2)) (by decide) ?_
  refine g_callVV [.int (nI 11)] (by decide +kernel : decode prog_10_method_99_code 3 = .ok (.invokevirtual 285, 3)) lk_Md_285 (m_runs σ B r 0 (nI 11) (by omega)) rfl rfl rfl rfl (Nat.le_of_ble_eq_true rfl) (Nat.le_of_ble_eq_true rfl) (fun s3 h3 => ?_)
  obtain rfl := h3
  refine g_aload_n (by decide +kernel : decode prog_10_method_99_code 6 = .ok (.aload_n 0, 1)) rfl ?_
  refine g_iload_n (by decide +kernel : decode prog_10_method_99_code 7 = .ok (.iload_n 1, 1)) rfl ?_
  refine g_callVI [.int x] (by decide +kernel : decode prog_10_method_99_code 8 = .ok (.invokevirtual 300, 3)) lk_Md_300 (m_counts_5 σ (upd B r (nI 11)) (r + 1) x hk hn ha (by omega)) rfl rfl rfl rfl (Nat.le_of_ble_eq_true rfl) (Nat.le_of_ble_eq_true rfl) (fun r8 s8 h8 => ?_)
  obtain ⟨rfl, rfl⟩ := h8
  refine g_iconst (v := nI 2) (by decide +kernel : decode prog_10_method_99_code 11 = .ok (.iconst 2, 1)) (by decide) ?_
  refine g_imul (by decide +kernel : decode prog_10_method_99_code 12 = .ok (.imul, 1)) ?_
  refine g_aload_n (by decide +kernel : decode prog_10_method_99_code 13 = .ok (.aload_n 0, 1)) rfl ?_
  refine g_getI (by decide +kernel : decode prog_10_method_99_code 14 = .ok (.getfield 303, 3)) fl_Md_303.get rfl rfl ?_
  refine g_top (w := nI a) (ha) ?_
  refine g_isub (by decide +kernel : decode prog_10_method_99_code 17 = .ok (.isub, 1)) ?_
  exact g_iret hR (by decide +kernel : decode prog_10_method_99_code 18 = .ok (.ireturn, 1)) rfl ⟨_, rfl, ⟨rfl, rfl⟩⟩
set_option maxRecDepth 20000 in
theorem m_calls_5 (σ : Store) (B : Row) (r : Nat) (x : Int32) {n a : Nat} (hk : σ 0 23 = nI 5) (hn : σ 0 24 = nI n) (ha : σ 0 25 = nI a) (hr : r ≤ 8) : Ct ΛM mt_Md_calls 5 [.ref 0, .int x] (aS σ B r 0) (PF (lV 5 n a x) (aS σ (wl B r (lC 5)) (r + 2) 0)) := by
  refine Ct.of (by decide) (Nat.le_of_ble_eq_true rfl) (fun X hR => ?_)
  show G (ΛM, mt_Md_calls, 5) X (aS σ B r 0) [some (.ref 0), some (.int x), none] [] 0
  refine g_aload_n (by decide +kernel : decode prog_10_method_100_code 0 = .ok (.aload_n 0, 1)) rfl ?_
  refine g_getI (by decide +kernel : decode prog_10_method_100_code 1 = .ok (.getfield 294, 3)) fl_Md_294.get rfl rfl ?_
  refine g_top (w := nI 5) (hk) ?_
  refine g_iconst (v := nI 1) (by decide +kernel : decode prog_10_method_100_code 4 = .ok (.iconst 1, 1)) (by decide) ?_
  refine g_icmp_eqN (tgt := 16) (by decide +kernel : decode prog_10_method_100_code 5 = .ok (.if_icmp .eq 11, 3)) (by decide) (by decide) (by decide) (fun h => False.elim (by revert h; decide)) (fun _ => ?_)
  refine g_aload_n (by decide +kernel : decode prog_10_method_100_code 8 = .ok (.aload_n 0, 1)) rfl ?_
  refine g_getI (by decide +kernel : decode prog_10_method_100_code 9 = .ok (.getfield 294, 3)) fl_Md_294.get rfl rfl ?_
  refine g_top (w := nI 5) (hk) ?_
  refine g_iconst (v := nI 3) (by decide +kernel : decode prog_10_method_100_code 12 = .ok (.iconst 3, 1)) (by decide) ?_
  refine g_icmp_neN (tgt := 30) (by decide +kernel : decode prog_10_method_100_code 13 = .ok (.if_icmp .ne 17, 3)) (by decide) (by decide) (by decide) (fun _ => ?_) (fun h => False.elim (by revert h; decide))
  refine g_aload_n (by decide +kernel : decode prog_10_method_100_code 30 = .ok (.aload_n 0, 1)) rfl ?_
  refine g_getI (by decide +kernel : decode prog_10_method_100_code 31 = .ok (.getfield 294, 3)) fl_Md_294.get rfl rfl ?_
  refine g_top (w := nI 5) (hk) ?_
  refine g_iconst (v := nI 4) (by decide +kernel : decode prog_10_method_100_code 34 = .ok (.iconst 4, 1)) (by decide) ?_
  refine g_icmp_neN (tgt := 61) (by decide +kernel : decode prog_10_method_100_code 35 = .ok (.if_icmp .ne 26, 3)) (by decide) (by decide) (by decide) (fun _ => ?_) (fun h => False.elim (by revert h; decide))
  refine g_aload_n (by decide +kernel : decode prog_10_method_100_code 61 = .ok (.aload_n 0, 1)) rfl ?_
  refine g_iload_n (by decide +kernel : decode prog_10_method_100_code 62 = .ok (.iload_n 1, 1)) rfl ?_
  refine g_callVI [.int x] (by decide +kernel : decode prog_10_method_100_code 63 = .ok (.invokevirtual 306, 3)) lk_Md_306 (m_callsPlain_5 σ B r x hk hn ha (by omega)) rfl rfl rfl rfl (Nat.le_of_ble_eq_true rfl) (Nat.le_of_ble_eq_true rfl) (fun r63 s63 h63 => ?_)
  obtain ⟨rfl, rfl⟩ := h63
  exact g_iret hR (by decide +kernel : decode prog_10_method_100_code 66 = .ok (.ireturn, 1)) rfl ⟨_, rfl, ⟨rfl, rfl⟩⟩
theorem sub_z {a b : Int32} (h : a - b = 0) : a = b := by
  have h1 : a - b + b = a := Int32.sub_add_cancel a b
  rw [h, Int32.zero_add] at h1
  exact h1.symm
set_option maxRecDepth 20000 in
theorem m_partsPlain_e (σ : Store) (B : Row) (r : Nat) (x : Int32) {n a : Nat} (hn : σ 0 24 = nI n) (ha : σ 0 25 = nI a) (hr : r ≤ 25) (hn7 : n ≤ 7) (ha9 : a ≤ 9) (hna : n = a) : Ct ΛM mt_Md_partsPlain 1 [.ref 0, .int x] (aS σ B r 0) (PF (pP n a x) (aS σ (upd B r (nI 12)) (r + 1) 1)) := by
  refine Ct.of (by decide) (Nat.le_of_ble_eq_true rfl) (fun X hR => ?_)
  show G (ΛM, mt_Md_partsPlain, 1) X (aS σ B r 0) [some (.ref 0), some (.int x)] [] 0
  refine g_aload_n (by decide +kernel : decode prog_10_method_101_code 0 = .ok (.aload_n 0, 1)) rfl ?_
  refine g_bipush (v := nI 12) (by decide +kernel : decode prog_10_method_101_code 1 = .ok (.bipush 12, 2)) (by decide) ?_
  refine g_callVV [.int (nI 12)] (by decide +kernel : decode prog_10_method_101_code 3 = .ok (.invokevirtual 285, 3)) lk_Md_285 (m_runs σ B r 0 (nI 12) (by omega)) rfl rfl rfl rfl (Nat.le_of_ble_eq_true rfl) (Nat.le_of_ble_eq_true rfl) (fun s3 h3 => ?_)
  obtain rfl := h3
  refine g_aload_n (by decide +kernel : decode prog_10_method_101_code 6 = .ok (.aload_n 0, 1)) rfl ?_
  refine g_aload_n (by decide +kernel : decode prog_10_method_101_code 7 = .ok (.aload_n 0, 1)) rfl ?_
  refine g_getI (by decide +kernel : decode prog_10_method_101_code 8 = .ok (.getfield 309, 3)) fl_Md_309.get rfl rfl ?_
  refine g_top (w := nI 0) (rfl) ?_
  refine g_if_neN (tgt := 25) (by decide +kernel : decode prog_10_method_101_code 11 = .ok (.ifCond .ne 14, 3)) (by decide) (by decide) (fun h => False.elim (by revert h; decide)) (fun _ => ?_)
  refine g_aload_n (by decide +kernel : decode prog_10_method_101_code 14 = .ok (.aload_n 0, 1)) rfl ?_
  refine g_getI (by decide +kernel : decode prog_10_method_101_code 15 = .ok (.getfield 288, 3)) fl_Md_288.get rfl rfl ?_
  refine g_top (w := nI n) (hn) ?_
  refine g_aload_n (by decide +kernel : decode prog_10_method_101_code 18 = .ok (.aload_n 0, 1)) rfl ?_
  refine g_getI (by decide +kernel : decode prog_10_method_101_code 19 = .ok (.getfield 303, 3)) fl_Md_303.get rfl rfl ?_
  refine g_top (w := nI a) (ha) ?_
  refine g_icmp_neN (tgt := 29) (by decide +kernel : decode prog_10_method_101_code 22 = .ok (.if_icmp .ne 7, 3)) (by decide) (by omega) (by omega) (fun h => absurd hna h) (fun _ => ?_)
  refine g_iconst (v := nI 1) (by decide +kernel : decode prog_10_method_101_code 25 = .ok (.iconst 1, 1)) (by decide) ?_
  refine g_goto (tgt := 30) (by decide +kernel : decode prog_10_method_101_code 26 = .ok (.goto 4, 3)) (by decide) ?_
  refine g_putZ (by decide +kernel : decode prog_10_method_101_code 30 = .ok (.putfield 309, 3)) fl_Md_309 rfl rfl (by decide) ?_
  refine g_sto (aS_p _ _ _ _ _) ?_
  refine g_aload_n (by decide +kernel : decode prog_10_method_101_code 33 = .ok (.aload_n 0, 1)) rfl ?_
  refine g_getI (by decide +kernel : decode prog_10_method_101_code 34 = .ok (.getfield 309, 3)) fl_Md_309.get rfl rfl ?_
  refine g_top (w := nI 1) (rfl) ?_
  refine g_if_eqN (tgt := 44) (by decide +kernel : decode prog_10_method_101_code 37 = .ok (.ifCond .eq 7, 3)) (by decide) (by decide) (fun h => False.elim (by revert h; decide)) (fun _ => ?_)
  refine g_iconst (v := nI 0) (by decide +kernel : decode prog_10_method_101_code 40 = .ok (.iconst 0, 1)) (by decide) ?_
  refine g_goto (tgt := 55) (by decide +kernel : decode prog_10_method_101_code 41 = .ok (.goto 14, 3)) (by decide) ?_
  exact g_iret hR (by decide +kernel : decode prog_10_method_101_code 55 = .ok (.ireturn, 1)) rfl ⟨_, rfl, ⟨by unfold pP; rw [if_pos hna], rfl⟩⟩
set_option maxRecDepth 20000 in
theorem m_parts_0e (σ : Store) (B : Row) (r : Nat) (x : Int32) {n a : Nat} (hk : σ 0 23 = nI 0) (hn : σ 0 24 = nI n) (ha : σ 0 25 = nI a) (hr : r ≤ 20) (hn7 : n ≤ 7) (ha9 : a ≤ 9) (hna : n = a) : Ct ΛM mt_Md_parts 4 [.ref 0, .int x] (aS σ B r 0) (PF (pV 0 n a x) (aS σ (wl B r (pC 0 n a)) (r + 1) 1)) := by
  refine Ct.of (by decide) (Nat.le_of_ble_eq_true rfl) (fun X hR => ?_)
  show G (ΛM, mt_Md_parts, 4) X (aS σ B r 0) [some (.ref 0), some (.int x), none] [] 0
  refine g_aload_n (by decide +kernel : decode prog_10_method_102_code 0 = .ok (.aload_n 0, 1)) rfl ?_
  refine g_getI (by decide +kernel : decode prog_10_method_102_code 1 = .ok (.getfield 294, 3)) fl_Md_294.get rfl rfl ?_
  refine g_top (w := nI 0) (hk) ?_
  refine g_iconst (v := nI 3) (by decide +kernel : decode prog_10_method_102_code 4 = .ok (.iconst 3, 1)) (by decide) ?_
  refine g_icmp_neN (tgt := 27) (by decide +kernel : decode prog_10_method_102_code 5 = .ok (.if_icmp .ne 22, 3)) (by decide) (by decide) (by decide) (fun _ => ?_) (fun h => False.elim (by revert h; decide))
  refine g_aload_n (by decide +kernel : decode prog_10_method_102_code 27 = .ok (.aload_n 0, 1)) rfl ?_
  refine g_getI (by decide +kernel : decode prog_10_method_102_code 28 = .ok (.getfield 294, 3)) fl_Md_294.get rfl rfl ?_
  refine g_top (w := nI 0) (hk) ?_
  refine g_iconst (v := nI 5) (by decide +kernel : decode prog_10_method_102_code 31 = .ok (.iconst 5, 1)) (by decide) ?_
  refine g_icmp_neN (tgt := 69) (by decide +kernel : decode prog_10_method_102_code 32 = .ok (.if_icmp .ne 37, 3)) (by decide) (by decide) (by decide) (fun _ => ?_) (fun h => False.elim (by revert h; decide))
  refine g_aload_n (by decide +kernel : decode prog_10_method_102_code 69 = .ok (.aload_n 0, 1)) rfl ?_
  refine g_iload_n (by decide +kernel : decode prog_10_method_102_code 70 = .ok (.iload_n 1, 1)) rfl ?_
  refine g_callVI [.int x] (by decide +kernel : decode prog_10_method_102_code 71 = .ok (.invokevirtual 312, 3)) lk_Md_312 (m_partsPlain_e σ B r x hn ha (by omega) hn7 ha9 hna) rfl rfl rfl rfl (Nat.le_of_ble_eq_true rfl) (Nat.le_of_ble_eq_true rfl) (fun r71 s71 h71 => ?_)
  obtain ⟨rfl, rfl⟩ := h71
  exact g_iret hR (by decide +kernel : decode prog_10_method_102_code 74 = .ok (.ireturn, 1)) rfl ⟨_, rfl, ⟨rfl, rfl⟩⟩
set_option maxRecDepth 20000 in
theorem m_looksPlain_0 (σ : Store) (B : Row) (r : Nat) (x : Int32) {n a : Nat} (hk : σ 0 23 = nI 0) (hn : σ 0 24 = nI n) (ha : σ 0 25 = nI a) (hr : r ≤ 7) : Ct ΛM mt_Md_looksPlain 6 [.ref 0, .int x] (aS σ B r 0) (PF (lV 0 n a x ^^^ nI 12) (aS σ (wl (upd B r (nI 13)) (r + 1) (lC 0)) (r + 1 + 2) 0)) := by
  refine Ct.of (by decide) (Nat.le_of_ble_eq_true rfl) (fun X hR => ?_)
  show G (ΛM, mt_Md_looksPlain, 6) X (aS σ B r 0) [some (.ref 0), some (.int x)] [] 0
  refine g_aload_n (by decide +kernel : decode prog_10_method_103_code 0 = .ok (.aload_n 0, 1)) rfl ?_
  refine g_bipush (v := nI 13) (by decide +kernel : decode prog_10_method_103_code 1 = .ok (.bipush 13, 2)) (by decide) ?_
  refine g_callVV [.int (nI 13)] (by decide +kernel : decode prog_10_method_103_code 3 = .ok (.invokevirtual 285, 3)) lk_Md_285 (m_runs σ B r 0 (nI 13) (by omega)) rfl rfl rfl rfl (Nat.le_of_ble_eq_true rfl) (Nat.le_of_ble_eq_true rfl) (fun s3 h3 => ?_)
  obtain rfl := h3
  refine g_aload_n (by decide +kernel : decode prog_10_method_103_code 6 = .ok (.aload_n 0, 1)) rfl ?_
  refine g_iload_n (by decide +kernel : decode prog_10_method_103_code 7 = .ok (.iload_n 1, 1)) rfl ?_
  refine g_callVI [.int x] (by decide +kernel : decode prog_10_method_103_code 8 = .ok (.invokevirtual 315, 3)) lk_Md_315 (m_calls_0 σ (upd B r (nI 13)) (r + 1) x hk hn ha (by omega)) rfl rfl rfl rfl (Nat.le_of_ble_eq_true rfl) (Nat.le_of_ble_eq_true rfl) (fun r8 s8 h8 => ?_)
  obtain ⟨rfl, rfl⟩ := h8
  refine g_bipush (v := nI 12) (by decide +kernel : decode prog_10_method_103_code 11 = .ok (.bipush 12, 2)) (by decide) ?_
  refine g_ixor (by decide +kernel : decode prog_10_method_103_code 13 = .ok (.ixor, 1)) ?_
  exact g_iret hR (by decide +kernel : decode prog_10_method_103_code 14 = .ok (.ireturn, 1)) rfl ⟨_, rfl, ⟨rfl, rfl⟩⟩
set_option maxRecDepth 20000 in
theorem m_looks_0e (σ : Store) (B : Row) (r : Nat) (x : Int32) {n a : Nat} (hk : σ 0 23 = nI 0) (hn : σ 0 24 = nI n) (ha : σ 0 25 = nI a) (hr : r ≤ 5) (hn7 : n ≤ 7) (ha9 : a ≤ 9) (hna : n = a) : Ct ΛM mt_Md_looks 7 [.ref 0, .int x] (aS σ B r 0) (PF (kV 0 n a x) (aS σ (wl B r (kC 0 n a)) (r + 3) 0)) := by
  refine Ct.of (by decide) (Nat.le_of_ble_eq_true rfl) (fun X hR => ?_)
  show G (ΛM, mt_Md_looks, 7) X (aS σ B r 0) [some (.ref 0), some (.int x), none] [] 0
  refine g_aload_n (by decide +kernel : decode prog_10_method_104_code 0 = .ok (.aload_n 0, 1)) rfl ?_
  refine g_getI (by decide +kernel : decode prog_10_method_104_code 1 = .ok (.getfield 294, 3)) fl_Md_294.get rfl rfl ?_
  refine g_top (w := nI 0) (hk) ?_
  refine g_iconst (v := nI 2) (by decide +kernel : decode prog_10_method_104_code 4 = .ok (.iconst 2, 1)) (by decide) ?_
  refine g_icmp_eqN (tgt := 16) (by decide +kernel : decode prog_10_method_104_code 5 = .ok (.if_icmp .eq 11, 3)) (by decide) (by decide) (by decide) (fun h => False.elim (by revert h; decide)) (fun _ => ?_)
  refine g_aload_n (by decide +kernel : decode prog_10_method_104_code 8 = .ok (.aload_n 0, 1)) rfl ?_
  refine g_getI (by decide +kernel : decode prog_10_method_104_code 9 = .ok (.getfield 294, 3)) fl_Md_294.get rfl rfl ?_
  refine g_top (w := nI 0) (hk) ?_
  refine g_iconst (v := nI 4) (by decide +kernel : decode prog_10_method_104_code 12 = .ok (.iconst 4, 1)) (by decide) ?_
  refine g_icmp_neN (tgt := 39) (by decide +kernel : decode prog_10_method_104_code 13 = .ok (.if_icmp .ne 26, 3)) (by decide) (by decide) (by decide) (fun _ => ?_) (fun h => False.elim (by revert h; decide))
  refine g_aload_n (by decide +kernel : decode prog_10_method_104_code 39 = .ok (.aload_n 0, 1)) rfl ?_
  refine g_getI (by decide +kernel : decode prog_10_method_104_code 40 = .ok (.getfield 294, 3)) fl_Md_294.get rfl rfl ?_
  refine g_top (w := nI 0) (hk) ?_
  refine g_iconst (v := nI 5) (by decide +kernel : decode prog_10_method_104_code 43 = .ok (.iconst 5, 1)) (by decide) ?_
  refine g_icmp_neN (tgt := 61) (by decide +kernel : decode prog_10_method_104_code 44 = .ok (.if_icmp .ne 17, 3)) (by decide) (by decide) (by decide) (fun _ => ?_) (fun h => False.elim (by revert h; decide))
  refine g_aload_n (by decide +kernel : decode prog_10_method_104_code 61 = .ok (.aload_n 0, 1)) rfl ?_
  refine g_iload_n (by decide +kernel : decode prog_10_method_104_code 62 = .ok (.iload_n 1, 1)) rfl ?_
  refine g_callVI [.int x] (by decide +kernel : decode prog_10_method_104_code 63 = .ok (.invokevirtual 318, 3)) lk_Md_318 (m_looksPlain_0 σ B r x hk hn ha (by omega)) rfl rfl rfl rfl (Nat.le_of_ble_eq_true rfl) (Nat.le_of_ble_eq_true rfl) (fun r63 s63 h63 => ?_)
  obtain ⟨rfl, rfl⟩ := h63
  exact g_iret hR (by decide +kernel : decode prog_10_method_104_code 66 = .ok (.ireturn, 1)) rfl ⟨_, rfl, ⟨rfl, rfl⟩⟩
set_option maxRecDepth 20000 in
theorem m_parts_1e (σ : Store) (B : Row) (r : Nat) (x : Int32) {n a : Nat} (hk : σ 0 23 = nI 1) (hn : σ 0 24 = nI n) (ha : σ 0 25 = nI a) (hr : r ≤ 20) (hn7 : n ≤ 7) (ha9 : a ≤ 9) (hna : n = a) : Ct ΛM mt_Md_parts 4 [.ref 0, .int x] (aS σ B r 0) (PF (pV 1 n a x) (aS σ (wl B r (pC 1 n a)) (r + 1) 1)) := by
  refine Ct.of (by decide) (Nat.le_of_ble_eq_true rfl) (fun X hR => ?_)
  show G (ΛM, mt_Md_parts, 4) X (aS σ B r 0) [some (.ref 0), some (.int x), none] [] 0
  refine g_aload_n (by decide +kernel : decode prog_10_method_102_code 0 = .ok (.aload_n 0, 1)) rfl ?_
  refine g_getI (by decide +kernel : decode prog_10_method_102_code 1 = .ok (.getfield 294, 3)) fl_Md_294.get rfl rfl ?_
  refine g_top (w := nI 1) (hk) ?_
  refine g_iconst (v := nI 3) (by decide +kernel : decode prog_10_method_102_code 4 = .ok (.iconst 3, 1)) (by decide) ?_
  refine g_icmp_neN (tgt := 27) (by decide +kernel : decode prog_10_method_102_code 5 = .ok (.if_icmp .ne 22, 3)) (by decide) (by decide) (by decide) (fun _ => ?_) (fun h => False.elim (by revert h; decide))
  refine g_aload_n (by decide +kernel : decode prog_10_method_102_code 27 = .ok (.aload_n 0, 1)) rfl ?_
  refine g_getI (by decide +kernel : decode prog_10_method_102_code 28 = .ok (.getfield 294, 3)) fl_Md_294.get rfl rfl ?_
  refine g_top (w := nI 1) (hk) ?_
  refine g_iconst (v := nI 5) (by decide +kernel : decode prog_10_method_102_code 31 = .ok (.iconst 5, 1)) (by decide) ?_
  refine g_icmp_neN (tgt := 69) (by decide +kernel : decode prog_10_method_102_code 32 = .ok (.if_icmp .ne 37, 3)) (by decide) (by decide) (by decide) (fun _ => ?_) (fun h => False.elim (by revert h; decide))
  refine g_aload_n (by decide +kernel : decode prog_10_method_102_code 69 = .ok (.aload_n 0, 1)) rfl ?_
  refine g_iload_n (by decide +kernel : decode prog_10_method_102_code 70 = .ok (.iload_n 1, 1)) rfl ?_
  refine g_callVI [.int x] (by decide +kernel : decode prog_10_method_102_code 71 = .ok (.invokevirtual 312, 3)) lk_Md_312 (m_partsPlain_e σ B r x hn ha (by omega) hn7 ha9 hna) rfl rfl rfl rfl (Nat.le_of_ble_eq_true rfl) (Nat.le_of_ble_eq_true rfl) (fun r71 s71 h71 => ?_)
  obtain ⟨rfl, rfl⟩ := h71
  exact g_iret hR (by decide +kernel : decode prog_10_method_102_code 74 = .ok (.ireturn, 1)) rfl ⟨_, rfl, ⟨rfl, rfl⟩⟩
set_option maxRecDepth 20000 in
theorem m_looksPlain_1 (σ : Store) (B : Row) (r : Nat) (x : Int32) {n a : Nat} (hk : σ 0 23 = nI 1) (hn : σ 0 24 = nI n) (ha : σ 0 25 = nI a) (hr : r ≤ 7) : Ct ΛM mt_Md_looksPlain 6 [.ref 0, .int x] (aS σ B r 0) (PF (lV 1 n a x ^^^ nI 12) (aS σ (wl (upd B r (nI 13)) (r + 1) (lC 1)) (r + 1 + 3) 0)) := by
  refine Ct.of (by decide) (Nat.le_of_ble_eq_true rfl) (fun X hR => ?_)
  show G (ΛM, mt_Md_looksPlain, 6) X (aS σ B r 0) [some (.ref 0), some (.int x)] [] 0
  refine g_aload_n (by decide +kernel : decode prog_10_method_103_code 0 = .ok (.aload_n 0, 1)) rfl ?_
  refine g_bipush (v := nI 13) (by decide +kernel : decode prog_10_method_103_code 1 = .ok (.bipush 13, 2)) (by decide) ?_
  refine g_callVV [.int (nI 13)] (by decide +kernel : decode prog_10_method_103_code 3 = .ok (.invokevirtual 285, 3)) lk_Md_285 (m_runs σ B r 0 (nI 13) (by omega)) rfl rfl rfl rfl (Nat.le_of_ble_eq_true rfl) (Nat.le_of_ble_eq_true rfl) (fun s3 h3 => ?_)
  obtain rfl := h3
  refine g_aload_n (by decide +kernel : decode prog_10_method_103_code 6 = .ok (.aload_n 0, 1)) rfl ?_
  refine g_iload_n (by decide +kernel : decode prog_10_method_103_code 7 = .ok (.iload_n 1, 1)) rfl ?_
  refine g_callVI [.int x] (by decide +kernel : decode prog_10_method_103_code 8 = .ok (.invokevirtual 315, 3)) lk_Md_315 (m_calls_1 σ (upd B r (nI 13)) (r + 1) x hk hn ha (by omega)) rfl rfl rfl rfl (Nat.le_of_ble_eq_true rfl) (Nat.le_of_ble_eq_true rfl) (fun r8 s8 h8 => ?_)
  obtain ⟨rfl, rfl⟩ := h8
  refine g_bipush (v := nI 12) (by decide +kernel : decode prog_10_method_103_code 11 = .ok (.bipush 12, 2)) (by decide) ?_
  refine g_ixor (by decide +kernel : decode prog_10_method_103_code 13 = .ok (.ixor, 1)) ?_
  exact g_iret hR (by decide +kernel : decode prog_10_method_103_code 14 = .ok (.ireturn, 1)) rfl ⟨_, rfl, ⟨rfl, rfl⟩⟩
set_option maxRecDepth 20000 in
theorem m_looks_1e (σ : Store) (B : Row) (r : Nat) (x : Int32) {n a : Nat} (hk : σ 0 23 = nI 1) (hn : σ 0 24 = nI n) (ha : σ 0 25 = nI a) (hr : r ≤ 5) (hn7 : n ≤ 7) (ha9 : a ≤ 9) (hna : n = a) : Ct ΛM mt_Md_looks 7 [.ref 0, .int x] (aS σ B r 0) (PF (kV 1 n a x) (aS σ (wl B r (kC 1 n a)) (r + 4) 0)) := by
  refine Ct.of (by decide) (Nat.le_of_ble_eq_true rfl) (fun X hR => ?_)
  show G (ΛM, mt_Md_looks, 7) X (aS σ B r 0) [some (.ref 0), some (.int x), none] [] 0
  refine g_aload_n (by decide +kernel : decode prog_10_method_104_code 0 = .ok (.aload_n 0, 1)) rfl ?_
  refine g_getI (by decide +kernel : decode prog_10_method_104_code 1 = .ok (.getfield 294, 3)) fl_Md_294.get rfl rfl ?_
  refine g_top (w := nI 1) (hk) ?_
  refine g_iconst (v := nI 2) (by decide +kernel : decode prog_10_method_104_code 4 = .ok (.iconst 2, 1)) (by decide) ?_
  refine g_icmp_eqN (tgt := 16) (by decide +kernel : decode prog_10_method_104_code 5 = .ok (.if_icmp .eq 11, 3)) (by decide) (by decide) (by decide) (fun h => False.elim (by revert h; decide)) (fun _ => ?_)
  refine g_aload_n (by decide +kernel : decode prog_10_method_104_code 8 = .ok (.aload_n 0, 1)) rfl ?_
  refine g_getI (by decide +kernel : decode prog_10_method_104_code 9 = .ok (.getfield 294, 3)) fl_Md_294.get rfl rfl ?_
  refine g_top (w := nI 1) (hk) ?_
  refine g_iconst (v := nI 4) (by decide +kernel : decode prog_10_method_104_code 12 = .ok (.iconst 4, 1)) (by decide) ?_
  refine g_icmp_neN (tgt := 39) (by decide +kernel : decode prog_10_method_104_code 13 = .ok (.if_icmp .ne 26, 3)) (by decide) (by decide) (by decide) (fun _ => ?_) (fun h => False.elim (by revert h; decide))
  refine g_aload_n (by decide +kernel : decode prog_10_method_104_code 39 = .ok (.aload_n 0, 1)) rfl ?_
  refine g_getI (by decide +kernel : decode prog_10_method_104_code 40 = .ok (.getfield 294, 3)) fl_Md_294.get rfl rfl ?_
  refine g_top (w := nI 1) (hk) ?_
  refine g_iconst (v := nI 5) (by decide +kernel : decode prog_10_method_104_code 43 = .ok (.iconst 5, 1)) (by decide) ?_
  refine g_icmp_neN (tgt := 61) (by decide +kernel : decode prog_10_method_104_code 44 = .ok (.if_icmp .ne 17, 3)) (by decide) (by decide) (by decide) (fun _ => ?_) (fun h => False.elim (by revert h; decide))
  refine g_aload_n (by decide +kernel : decode prog_10_method_104_code 61 = .ok (.aload_n 0, 1)) rfl ?_
  refine g_iload_n (by decide +kernel : decode prog_10_method_104_code 62 = .ok (.iload_n 1, 1)) rfl ?_
  refine g_callVI [.int x] (by decide +kernel : decode prog_10_method_104_code 63 = .ok (.invokevirtual 318, 3)) lk_Md_318 (m_looksPlain_1 σ B r x hk hn ha (by omega)) rfl rfl rfl rfl (Nat.le_of_ble_eq_true rfl) (Nat.le_of_ble_eq_true rfl) (fun r63 s63 h63 => ?_)
  obtain ⟨rfl, rfl⟩ := h63
  exact g_iret hR (by decide +kernel : decode prog_10_method_104_code 66 = .ok (.ireturn, 1)) rfl ⟨_, rfl, ⟨rfl, rfl⟩⟩
set_option maxRecDepth 20000 in
theorem m_parts_2e (σ : Store) (B : Row) (r : Nat) (x : Int32) {n a : Nat} (hk : σ 0 23 = nI 2) (hn : σ 0 24 = nI n) (ha : σ 0 25 = nI a) (hr : r ≤ 20) (hn7 : n ≤ 7) (ha9 : a ≤ 9) (hna : n = a) : Ct ΛM mt_Md_parts 4 [.ref 0, .int x] (aS σ B r 0) (PF (pV 2 n a x) (aS σ (wl B r (pC 2 n a)) (r + 1) 1)) := by
  refine Ct.of (by decide) (Nat.le_of_ble_eq_true rfl) (fun X hR => ?_)
  show G (ΛM, mt_Md_parts, 4) X (aS σ B r 0) [some (.ref 0), some (.int x), none] [] 0
  refine g_aload_n (by decide +kernel : decode prog_10_method_102_code 0 = .ok (.aload_n 0, 1)) rfl ?_
  refine g_getI (by decide +kernel : decode prog_10_method_102_code 1 = .ok (.getfield 294, 3)) fl_Md_294.get rfl rfl ?_
  refine g_top (w := nI 2) (hk) ?_
  refine g_iconst (v := nI 3) (by decide +kernel : decode prog_10_method_102_code 4 = .ok (.iconst 3, 1)) (by decide) ?_
  refine g_icmp_neN (tgt := 27) (by decide +kernel : decode prog_10_method_102_code 5 = .ok (.if_icmp .ne 22, 3)) (by decide) (by decide) (by decide) (fun _ => ?_) (fun h => False.elim (by revert h; decide))
  refine g_aload_n (by decide +kernel : decode prog_10_method_102_code 27 = .ok (.aload_n 0, 1)) rfl ?_
  refine g_getI (by decide +kernel : decode prog_10_method_102_code 28 = .ok (.getfield 294, 3)) fl_Md_294.get rfl rfl ?_
  refine g_top (w := nI 2) (hk) ?_
  refine g_iconst (v := nI 5) (by decide +kernel : decode prog_10_method_102_code 31 = .ok (.iconst 5, 1)) (by decide) ?_
  refine g_icmp_neN (tgt := 69) (by decide +kernel : decode prog_10_method_102_code 32 = .ok (.if_icmp .ne 37, 3)) (by decide) (by decide) (by decide) (fun _ => ?_) (fun h => False.elim (by revert h; decide))
  refine g_aload_n (by decide +kernel : decode prog_10_method_102_code 69 = .ok (.aload_n 0, 1)) rfl ?_
  refine g_iload_n (by decide +kernel : decode prog_10_method_102_code 70 = .ok (.iload_n 1, 1)) rfl ?_
  refine g_callVI [.int x] (by decide +kernel : decode prog_10_method_102_code 71 = .ok (.invokevirtual 312, 3)) lk_Md_312 (m_partsPlain_e σ B r x hn ha (by omega) hn7 ha9 hna) rfl rfl rfl rfl (Nat.le_of_ble_eq_true rfl) (Nat.le_of_ble_eq_true rfl) (fun r71 s71 h71 => ?_)
  obtain ⟨rfl, rfl⟩ := h71
  exact g_iret hR (by decide +kernel : decode prog_10_method_102_code 74 = .ok (.ireturn, 1)) rfl ⟨_, rfl, ⟨rfl, rfl⟩⟩
set_option maxRecDepth 20000 in
theorem m_looksPlain_2 (σ : Store) (B : Row) (r : Nat) (x : Int32) {n a : Nat} (hk : σ 0 23 = nI 2) (hn : σ 0 24 = nI n) (ha : σ 0 25 = nI a) (hr : r ≤ 7) : Ct ΛM mt_Md_looksPlain 6 [.ref 0, .int x] (aS σ B r 0) (PF (lV 2 n a x ^^^ nI 12) (aS σ (wl (upd B r (nI 13)) (r + 1) (lC 2)) (r + 1 + 3) 0)) := by
  refine Ct.of (by decide) (Nat.le_of_ble_eq_true rfl) (fun X hR => ?_)
  show G (ΛM, mt_Md_looksPlain, 6) X (aS σ B r 0) [some (.ref 0), some (.int x)] [] 0
  refine g_aload_n (by decide +kernel : decode prog_10_method_103_code 0 = .ok (.aload_n 0, 1)) rfl ?_
  refine g_bipush (v := nI 13) (by decide +kernel : decode prog_10_method_103_code 1 = .ok (.bipush 13, 2)) (by decide) ?_
  refine g_callVV [.int (nI 13)] (by decide +kernel : decode prog_10_method_103_code 3 = .ok (.invokevirtual 285, 3)) lk_Md_285 (m_runs σ B r 0 (nI 13) (by omega)) rfl rfl rfl rfl (Nat.le_of_ble_eq_true rfl) (Nat.le_of_ble_eq_true rfl) (fun s3 h3 => ?_)
  obtain rfl := h3
  refine g_aload_n (by decide +kernel : decode prog_10_method_103_code 6 = .ok (.aload_n 0, 1)) rfl ?_
  refine g_iload_n (by decide +kernel : decode prog_10_method_103_code 7 = .ok (.iload_n 1, 1)) rfl ?_
  refine g_callVI [.int x] (by decide +kernel : decode prog_10_method_103_code 8 = .ok (.invokevirtual 315, 3)) lk_Md_315 (m_calls_2 σ (upd B r (nI 13)) (r + 1) x hk hn ha (by omega)) rfl rfl rfl rfl (Nat.le_of_ble_eq_true rfl) (Nat.le_of_ble_eq_true rfl) (fun r8 s8 h8 => ?_)
  obtain ⟨rfl, rfl⟩ := h8
  refine g_bipush (v := nI 12) (by decide +kernel : decode prog_10_method_103_code 11 = .ok (.bipush 12, 2)) (by decide) ?_
  refine g_ixor (by decide +kernel : decode prog_10_method_103_code 13 = .ok (.ixor, 1)) ?_
  exact g_iret hR (by decide +kernel : decode prog_10_method_103_code 14 = .ok (.ireturn, 1)) rfl ⟨_, rfl, ⟨rfl, rfl⟩⟩
set_option maxRecDepth 20000 in
theorem m_looks_2e (σ : Store) (B : Row) (r : Nat) (x : Int32) {n a : Nat} (hk : σ 0 23 = nI 2) (hn : σ 0 24 = nI n) (ha : σ 0 25 = nI a) (hr : r ≤ 5) (hn7 : n ≤ 7) (ha9 : a ≤ 9) (hna : n = a) : Ct ΛM mt_Md_looks 7 [.ref 0, .int x] (aS σ B r 0) (PF (kV 2 n a x) (aS σ (wl B r (kC 2 n a)) (r + 6) 1)) := by
  refine Ct.of (by decide) (Nat.le_of_ble_eq_true rfl) (fun X hR => ?_)
  show G (ΛM, mt_Md_looks, 7) X (aS σ B r 0) [some (.ref 0), some (.int x), none] [] 0
  refine g_aload_n (by decide +kernel : decode prog_10_method_104_code 0 = .ok (.aload_n 0, 1)) rfl ?_
  refine g_getI (by decide +kernel : decode prog_10_method_104_code 1 = .ok (.getfield 294, 3)) fl_Md_294.get rfl rfl ?_
  refine g_top (w := nI 2) (hk) ?_
  refine g_iconst (v := nI 2) (by decide +kernel : decode prog_10_method_104_code 4 = .ok (.iconst 2, 1)) (by decide) ?_
  refine g_icmp_eqN (tgt := 16) (by decide +kernel : decode prog_10_method_104_code 5 = .ok (.if_icmp .eq 11, 3)) (by decide) (by decide) (by decide) (fun _ => ?_) (fun h => False.elim (by revert h; decide))
  refine g_aload_n (by decide +kernel : decode prog_10_method_104_code 16 = .ok (.aload_n 0, 1)) rfl ?_
  refine g_bipush (v := nI 31) (by decide +kernel : decode prog_10_method_104_code 17 = .ok (.bipush 31, 2)) (by decide) ?_
  refine g_callVV [.int (nI 31)] (by decide +kernel : decode prog_10_method_104_code 19 = .ok (.invokevirtual 285, 3)) lk_Md_285 (m_runs σ B r 0 (nI 31) (by omega)) rfl rfl rfl rfl (Nat.le_of_ble_eq_true rfl) (Nat.le_of_ble_eq_true rfl) (fun s19 h19 => ?_)
  obtain rfl := h19
  refine g_aload_n (by decide +kernel : decode prog_10_method_104_code 22 = .ok (.aload_n 0, 1)) rfl ?_
  refine g_iload_n (by decide +kernel : decode prog_10_method_104_code 23 = .ok (.iload_n 1, 1)) rfl ?_
  refine g_callVI [.int x] (by decide +kernel : decode prog_10_method_104_code 24 = .ok (.invokevirtual 318, 3)) lk_Md_318 (m_looksPlain_2 σ (upd B r (nI 31)) (r + 1) x hk hn ha (by omega)) rfl rfl rfl rfl (Nat.le_of_ble_eq_true rfl) (Nat.le_of_ble_eq_true rfl) (fun r24 s24 h24 => ?_)
  obtain ⟨rfl, rfl⟩ := h24
  refine g_istore_n (L' := [some (.ref 0), some (.int x), some (.int (lV 2 n a x ^^^ nI 12))]) (by decide +kernel : decode prog_10_method_104_code 27 = .ok (.istore_n 2, 1)) (Nat.le_of_ble_eq_true rfl) rfl ?_
  refine g_iload_n (by decide +kernel : decode prog_10_method_104_code 28 = .ok (.iload_n 2, 1)) rfl ?_
  refine g_aload_n (by decide +kernel : decode prog_10_method_104_code 29 = .ok (.aload_n 0, 1)) rfl ?_
  refine g_aload_n (by decide +kernel : decode prog_10_method_104_code 30 = .ok (.aload_n 0, 1)) rfl ?_
  refine g_getI (by decide +kernel : decode prog_10_method_104_code 31 = .ok (.getfield 288, 3)) fl_Md_288.get rfl rfl ?_
  refine g_top (w := nI n) (hn) ?_
  refine g_callVI [.int (nI n)] (by decide +kernel : decode prog_10_method_104_code 34 = .ok (.invokevirtual 321, 3)) lk_Md_321 (m_parts_2e σ (wl (upd (upd B r (nI 31)) (r + 1) (nI 13)) (r + 1 + 1) (lC 2)) (r + 1 + 1 + 3) (nI n) hk hn ha (by omega) hn7 ha9 hna) rfl rfl rfl rfl (Nat.le_of_ble_eq_true rfl) (Nat.le_of_ble_eq_true rfl) (fun r34 s34 h34 => ?_)
  obtain ⟨rfl, rfl⟩ := h34
  refine g_isub (by decide +kernel : decode prog_10_method_104_code 37 = .ok (.isub, 1)) ?_
  exact g_iret hR (by decide +kernel : decode prog_10_method_104_code 38 = .ok (.ireturn, 1)) rfl ⟨_, rfl, ⟨rfl, rfl⟩⟩
set_option maxRecDepth 20000 in
theorem m_parts_3e (σ : Store) (B : Row) (r : Nat) (x : Int32) {n a : Nat} (hk : σ 0 23 = nI 3) (hn : σ 0 24 = nI n) (ha : σ 0 25 = nI a) (hr : r ≤ 20) (hn7 : n ≤ 7) (ha9 : a ≤ 9) (hna : n = a) : Ct ΛM mt_Md_parts 4 [.ref 0, .int x] (aS σ B r 0) (PF (pV 3 n a x) (aS σ (wl B r (pC 3 n a)) (r + 2) 1)) := by
  refine Ct.of (by decide) (Nat.le_of_ble_eq_true rfl) (fun X hR => ?_)
  show G (ΛM, mt_Md_parts, 4) X (aS σ B r 0) [some (.ref 0), some (.int x), none] [] 0
  refine g_aload_n (by decide +kernel : decode prog_10_method_102_code 0 = .ok (.aload_n 0, 1)) rfl ?_
  refine g_getI (by decide +kernel : decode prog_10_method_102_code 1 = .ok (.getfield 294, 3)) fl_Md_294.get rfl rfl ?_
  refine g_top (w := nI 3) (hk) ?_
  refine g_iconst (v := nI 3) (by decide +kernel : decode prog_10_method_102_code 4 = .ok (.iconst 3, 1)) (by decide) ?_
  refine g_icmp_neN (tgt := 27) (by decide +kernel : decode prog_10_method_102_code 5 = .ok (.if_icmp .ne 22, 3)) (by decide) (by decide) (by decide) (fun h => False.elim (by revert h; decide)) (fun _ => ?_)
  refine g_aload_n (by decide +kernel : decode prog_10_method_102_code 8 = .ok (.aload_n 0, 1)) rfl ?_
  refine g_bipush (v := nI 50) (by decide +kernel : decode prog_10_method_102_code 9 = .ok (.bipush 50, 2)) (by decide) ?_
  refine g_callVV [.int (nI 50)] (by decide +kernel : decode prog_10_method_102_code 11 = .ok (.invokevirtual 285, 3)) lk_Md_285 (m_runs σ B r 0 (nI 50) (by omega)) rfl rfl rfl rfl (Nat.le_of_ble_eq_true rfl) (Nat.le_of_ble_eq_true rfl) (fun s11 h11 => ?_)
  obtain rfl := h11
  refine g_aload_n (by decide +kernel : decode prog_10_method_102_code 14 = .ok (.aload_n 0, 1)) rfl ?_
  refine g_iload_n (by decide +kernel : decode prog_10_method_102_code 15 = .ok (.iload_n 1, 1)) rfl ?_
  refine g_aload_n (by decide +kernel : decode prog_10_method_102_code 16 = .ok (.aload_n 0, 1)) rfl ?_
  refine g_getI (by decide +kernel : decode prog_10_method_102_code 17 = .ok (.getfield 303, 3)) fl_Md_303.get rfl rfl ?_
  refine g_top (w := nI a) (ha) ?_
  refine g_iadd (by decide +kernel : decode prog_10_method_102_code 20 = .ok (.iadd, 1)) ?_
  refine g_callVI [.int (x + (nI a))] (by decide +kernel : decode prog_10_method_102_code 21 = .ok (.invokevirtual 312, 3)) lk_Md_312 (m_partsPlain_e σ (upd B r (nI 50)) (r + 1) (x + (nI a)) hn ha (by omega) hn7 ha9 hna) rfl rfl rfl rfl (Nat.le_of_ble_eq_true rfl) (Nat.le_of_ble_eq_true rfl) (fun r21 s21 h21 => ?_)
  obtain ⟨rfl, rfl⟩ := h21
  refine g_iconst (v := nI 2) (by decide +kernel : decode prog_10_method_102_code 24 = .ok (.iconst 2, 1)) (by decide) ?_
  refine g_imul (by decide +kernel : decode prog_10_method_102_code 25 = .ok (.imul, 1)) ?_
  exact g_iret hR (by decide +kernel : decode prog_10_method_102_code 26 = .ok (.ireturn, 1)) rfl ⟨_, rfl, ⟨rfl, rfl⟩⟩
set_option maxRecDepth 20000 in
theorem m_looksPlain_3 (σ : Store) (B : Row) (r : Nat) (x : Int32) {n a : Nat} (hk : σ 0 23 = nI 3) (hn : σ 0 24 = nI n) (ha : σ 0 25 = nI a) (hr : r ≤ 7) : Ct ΛM mt_Md_looksPlain 6 [.ref 0, .int x] (aS σ B r 0) (PF (lV 3 n a x ^^^ nI 12) (aS σ (wl (upd B r (nI 13)) (r + 1) (lC 3)) (r + 1 + 4) 0)) := by
  refine Ct.of (by decide) (Nat.le_of_ble_eq_true rfl) (fun X hR => ?_)
  show G (ΛM, mt_Md_looksPlain, 6) X (aS σ B r 0) [some (.ref 0), some (.int x)] [] 0
  refine g_aload_n (by decide +kernel : decode prog_10_method_103_code 0 = .ok (.aload_n 0, 1)) rfl ?_
  refine g_bipush (v := nI 13) (by decide +kernel : decode prog_10_method_103_code 1 = .ok (.bipush 13, 2)) (by decide) ?_
  refine g_callVV [.int (nI 13)] (by decide +kernel : decode prog_10_method_103_code 3 = .ok (.invokevirtual 285, 3)) lk_Md_285 (m_runs σ B r 0 (nI 13) (by omega)) rfl rfl rfl rfl (Nat.le_of_ble_eq_true rfl) (Nat.le_of_ble_eq_true rfl) (fun s3 h3 => ?_)
  obtain rfl := h3
  refine g_aload_n (by decide +kernel : decode prog_10_method_103_code 6 = .ok (.aload_n 0, 1)) rfl ?_
  refine g_iload_n (by decide +kernel : decode prog_10_method_103_code 7 = .ok (.iload_n 1, 1)) rfl ?_
  refine g_callVI [.int x] (by decide +kernel : decode prog_10_method_103_code 8 = .ok (.invokevirtual 315, 3)) lk_Md_315 (m_calls_3 σ (upd B r (nI 13)) (r + 1) x hk hn ha (by omega)) rfl rfl rfl rfl (Nat.le_of_ble_eq_true rfl) (Nat.le_of_ble_eq_true rfl) (fun r8 s8 h8 => ?_)
  obtain ⟨rfl, rfl⟩ := h8
  refine g_bipush (v := nI 12) (by decide +kernel : decode prog_10_method_103_code 11 = .ok (.bipush 12, 2)) (by decide) ?_
  refine g_ixor (by decide +kernel : decode prog_10_method_103_code 13 = .ok (.ixor, 1)) ?_
  exact g_iret hR (by decide +kernel : decode prog_10_method_103_code 14 = .ok (.ireturn, 1)) rfl ⟨_, rfl, ⟨rfl, rfl⟩⟩
set_option maxRecDepth 20000 in
theorem m_looks_3e (σ : Store) (B : Row) (r : Nat) (x : Int32) {n a : Nat} (hk : σ 0 23 = nI 3) (hn : σ 0 24 = nI n) (ha : σ 0 25 = nI a) (hr : r ≤ 5) (hn7 : n ≤ 7) (ha9 : a ≤ 9) (hna : n = a) : Ct ΛM mt_Md_looks 7 [.ref 0, .int x] (aS σ B r 0) (PF (kV 3 n a x) (aS σ (wl B r (kC 3 n a)) (r + 5) 0)) := by
  refine Ct.of (by decide) (Nat.le_of_ble_eq_true rfl) (fun X hR => ?_)
  show G (ΛM, mt_Md_looks, 7) X (aS σ B r 0) [some (.ref 0), some (.int x), none] [] 0
  refine g_aload_n (by decide +kernel : decode prog_10_method_104_code 0 = .ok (.aload_n 0, 1)) rfl ?_
  refine g_getI (by decide +kernel : decode prog_10_method_104_code 1 = .ok (.getfield 294, 3)) fl_Md_294.get rfl rfl ?_
  refine g_top (w := nI 3) (hk) ?_
  refine g_iconst (v := nI 2) (by decide +kernel : decode prog_10_method_104_code 4 = .ok (.iconst 2, 1)) (by decide) ?_
  refine g_icmp_eqN (tgt := 16) (by decide +kernel : decode prog_10_method_104_code 5 = .ok (.if_icmp .eq 11, 3)) (by decide) (by decide) (by decide) (fun h => False.elim (by revert h; decide)) (fun _ => ?_)
  refine g_aload_n (by decide +kernel : decode prog_10_method_104_code 8 = .ok (.aload_n 0, 1)) rfl ?_
  refine g_getI (by decide +kernel : decode prog_10_method_104_code 9 = .ok (.getfield 294, 3)) fl_Md_294.get rfl rfl ?_
  refine g_top (w := nI 3) (hk) ?_
  refine g_iconst (v := nI 4) (by decide +kernel : decode prog_10_method_104_code 12 = .ok (.iconst 4, 1)) (by decide) ?_
  refine g_icmp_neN (tgt := 39) (by decide +kernel : decode prog_10_method_104_code 13 = .ok (.if_icmp .ne 26, 3)) (by decide) (by decide) (by decide) (fun _ => ?_) (fun h => False.elim (by revert h; decide))
  refine g_aload_n (by decide +kernel : decode prog_10_method_104_code 39 = .ok (.aload_n 0, 1)) rfl ?_
  refine g_getI (by decide +kernel : decode prog_10_method_104_code 40 = .ok (.getfield 294, 3)) fl_Md_294.get rfl rfl ?_
  refine g_top (w := nI 3) (hk) ?_
  refine g_iconst (v := nI 5) (by decide +kernel : decode prog_10_method_104_code 43 = .ok (.iconst 5, 1)) (by decide) ?_
  refine g_icmp_neN (tgt := 61) (by decide +kernel : decode prog_10_method_104_code 44 = .ok (.if_icmp .ne 17, 3)) (by decide) (by decide) (by decide) (fun _ => ?_) (fun h => False.elim (by revert h; decide))
  refine g_aload_n (by decide +kernel : decode prog_10_method_104_code 61 = .ok (.aload_n 0, 1)) rfl ?_
  refine g_iload_n (by decide +kernel : decode prog_10_method_104_code 62 = .ok (.iload_n 1, 1)) rfl ?_
  refine g_callVI [.int x] (by decide +kernel : decode prog_10_method_104_code 63 = .ok (.invokevirtual 318, 3)) lk_Md_318 (m_looksPlain_3 σ B r x hk hn ha (by omega)) rfl rfl rfl rfl (Nat.le_of_ble_eq_true rfl) (Nat.le_of_ble_eq_true rfl) (fun r63 s63 h63 => ?_)
  obtain ⟨rfl, rfl⟩ := h63
  exact g_iret hR (by decide +kernel : decode prog_10_method_104_code 66 = .ok (.ireturn, 1)) rfl ⟨_, rfl, ⟨rfl, rfl⟩⟩
set_option maxRecDepth 20000 in
theorem m_parts_4e (σ : Store) (B : Row) (r : Nat) (x : Int32) {n a : Nat} (hk : σ 0 23 = nI 4) (hn : σ 0 24 = nI n) (ha : σ 0 25 = nI a) (hr : r ≤ 20) (hn7 : n ≤ 7) (ha9 : a ≤ 9) (hna : n = a) : Ct ΛM mt_Md_parts 4 [.ref 0, .int x] (aS σ B r 0) (PF (pV 4 n a x) (aS σ (wl B r (pC 4 n a)) (r + 1) 1)) := by
  refine Ct.of (by decide) (Nat.le_of_ble_eq_true rfl) (fun X hR => ?_)
  show G (ΛM, mt_Md_parts, 4) X (aS σ B r 0) [some (.ref 0), some (.int x), none] [] 0
  refine g_aload_n (by decide +kernel : decode prog_10_method_102_code 0 = .ok (.aload_n 0, 1)) rfl ?_
  refine g_getI (by decide +kernel : decode prog_10_method_102_code 1 = .ok (.getfield 294, 3)) fl_Md_294.get rfl rfl ?_
  refine g_top (w := nI 4) (hk) ?_
  refine g_iconst (v := nI 3) (by decide +kernel : decode prog_10_method_102_code 4 = .ok (.iconst 3, 1)) (by decide) ?_
  refine g_icmp_neN (tgt := 27) (by decide +kernel : decode prog_10_method_102_code 5 = .ok (.if_icmp .ne 22, 3)) (by decide) (by decide) (by decide) (fun _ => ?_) (fun h => False.elim (by revert h; decide))
  refine g_aload_n (by decide +kernel : decode prog_10_method_102_code 27 = .ok (.aload_n 0, 1)) rfl ?_
  refine g_getI (by decide +kernel : decode prog_10_method_102_code 28 = .ok (.getfield 294, 3)) fl_Md_294.get rfl rfl ?_
  refine g_top (w := nI 4) (hk) ?_
  refine g_iconst (v := nI 5) (by decide +kernel : decode prog_10_method_102_code 31 = .ok (.iconst 5, 1)) (by decide) ?_
  refine g_icmp_neN (tgt := 69) (by decide +kernel : decode prog_10_method_102_code 32 = .ok (.if_icmp .ne 37, 3)) (by decide) (by decide) (by decide) (fun _ => ?_) (fun h => False.elim (by revert h; decide))
  refine g_aload_n (by decide +kernel : decode prog_10_method_102_code 69 = .ok (.aload_n 0, 1)) rfl ?_
  refine g_iload_n (by decide +kernel : decode prog_10_method_102_code 70 = .ok (.iload_n 1, 1)) rfl ?_
  refine g_callVI [.int x] (by decide +kernel : decode prog_10_method_102_code 71 = .ok (.invokevirtual 312, 3)) lk_Md_312 (m_partsPlain_e σ B r x hn ha (by omega) hn7 ha9 hna) rfl rfl rfl rfl (Nat.le_of_ble_eq_true rfl) (Nat.le_of_ble_eq_true rfl) (fun r71 s71 h71 => ?_)
  obtain ⟨rfl, rfl⟩ := h71
  exact g_iret hR (by decide +kernel : decode prog_10_method_102_code 74 = .ok (.ireturn, 1)) rfl ⟨_, rfl, ⟨rfl, rfl⟩⟩
set_option maxRecDepth 20000 in
theorem m_looksPlain_4 (σ : Store) (B : Row) (r : Nat) (x : Int32) {n a : Nat} (hk : σ 0 23 = nI 4) (hn : σ 0 24 = nI n) (ha : σ 0 25 = nI a) (hr : r ≤ 7) : Ct ΛM mt_Md_looksPlain 6 [.ref 0, .int x] (aS σ B r 0) (PF (lV 4 n a x ^^^ nI 12) (aS σ (wl (upd B r (nI 13)) (r + 1) (lC 4)) (r + 1 + 8) 0)) := by
  refine Ct.of (by decide) (Nat.le_of_ble_eq_true rfl) (fun X hR => ?_)
  show G (ΛM, mt_Md_looksPlain, 6) X (aS σ B r 0) [some (.ref 0), some (.int x)] [] 0
  refine g_aload_n (by decide +kernel : decode prog_10_method_103_code 0 = .ok (.aload_n 0, 1)) rfl ?_
  refine g_bipush (v := nI 13) (by decide +kernel : decode prog_10_method_103_code 1 = .ok (.bipush 13, 2)) (by decide) ?_
  refine g_callVV [.int (nI 13)] (by decide +kernel : decode prog_10_method_103_code 3 = .ok (.invokevirtual 285, 3)) lk_Md_285 (m_runs σ B r 0 (nI 13) (by omega)) rfl rfl rfl rfl (Nat.le_of_ble_eq_true rfl) (Nat.le_of_ble_eq_true rfl) (fun s3 h3 => ?_)
  obtain rfl := h3
  refine g_aload_n (by decide +kernel : decode prog_10_method_103_code 6 = .ok (.aload_n 0, 1)) rfl ?_
  refine g_iload_n (by decide +kernel : decode prog_10_method_103_code 7 = .ok (.iload_n 1, 1)) rfl ?_
  refine g_callVI [.int x] (by decide +kernel : decode prog_10_method_103_code 8 = .ok (.invokevirtual 315, 3)) lk_Md_315 (m_calls_4 σ (upd B r (nI 13)) (r + 1) x hk hn ha (by omega)) rfl rfl rfl rfl (Nat.le_of_ble_eq_true rfl) (Nat.le_of_ble_eq_true rfl) (fun r8 s8 h8 => ?_)
  obtain ⟨rfl, rfl⟩ := h8
  refine g_bipush (v := nI 12) (by decide +kernel : decode prog_10_method_103_code 11 = .ok (.bipush 12, 2)) (by decide) ?_
  refine g_ixor (by decide +kernel : decode prog_10_method_103_code 13 = .ok (.ixor, 1)) ?_
  exact g_iret hR (by decide +kernel : decode prog_10_method_103_code 14 = .ok (.ireturn, 1)) rfl ⟨_, rfl, ⟨rfl, rfl⟩⟩
set_option maxRecDepth 20000 in
theorem m_looks_4e (σ : Store) (B : Row) (r : Nat) (x : Int32) {n a : Nat} (hk : σ 0 23 = nI 4) (hn : σ 0 24 = nI n) (ha : σ 0 25 = nI a) (hr : r ≤ 5) (hn7 : n ≤ 7) (ha9 : a ≤ 9) (hna : n = a) : Ct ΛM mt_Md_looks 7 [.ref 0, .int x] (aS σ B r 0) (PF (kV 4 n a x) (aS σ (wl B r (kC 4 n a)) (r + 11) 1)) := by
  refine Ct.of (by decide) (Nat.le_of_ble_eq_true rfl) (fun X hR => ?_)
  show G (ΛM, mt_Md_looks, 7) X (aS σ B r 0) [some (.ref 0), some (.int x), none] [] 0
  refine g_aload_n (by decide +kernel : decode prog_10_method_104_code 0 = .ok (.aload_n 0, 1)) rfl ?_
  refine g_getI (by decide +kernel : decode prog_10_method_104_code 1 = .ok (.getfield 294, 3)) fl_Md_294.get rfl rfl ?_
  refine g_top (w := nI 4) (hk) ?_
  refine g_iconst (v := nI 2) (by decide +kernel : decode prog_10_method_104_code 4 = .ok (.iconst 2, 1)) (by decide) ?_
  refine g_icmp_eqN (tgt := 16) (by decide +kernel : decode prog_10_method_104_code 5 = .ok (.if_icmp .eq 11, 3)) (by decide) (by decide) (by decide) (fun h => False.elim (by revert h; decide)) (fun _ => ?_)
  refine g_aload_n (by decide +kernel : decode prog_10_method_104_code 8 = .ok (.aload_n 0, 1)) rfl ?_
  refine g_getI (by decide +kernel : decode prog_10_method_104_code 9 = .ok (.getfield 294, 3)) fl_Md_294.get rfl rfl ?_
  refine g_top (w := nI 4) (hk) ?_
  refine g_iconst (v := nI 4) (by decide +kernel : decode prog_10_method_104_code 12 = .ok (.iconst 4, 1)) (by decide) ?_
  refine g_icmp_neN (tgt := 39) (by decide +kernel : decode prog_10_method_104_code 13 = .ok (.if_icmp .ne 26, 3)) (by decide) (by decide) (by decide) (fun h => False.elim (by revert h; decide)) (fun _ => ?_)
  refine g_aload_n (by decide +kernel : decode prog_10_method_104_code 16 = .ok (.aload_n 0, 1)) rfl ?_
  refine g_bipush (v := nI 31) (by decide +kernel : decode prog_10_method_104_code 17 = .ok (.bipush 31, 2)) (by decide) ?_
  refine g_callVV [.int (nI 31)] (by decide +kernel : decode prog_10_method_104_code 19 = .ok (.invokevirtual 285, 3)) lk_Md_285 (m_runs σ B r 0 (nI 31) (by omega)) rfl rfl rfl rfl (Nat.le_of_ble_eq_true rfl) (Nat.le_of_ble_eq_true rfl) (fun s19 h19 => ?_)
  obtain rfl := h19
  refine g_aload_n (by decide +kernel : decode prog_10_method_104_code 22 = .ok (.aload_n 0, 1)) rfl ?_
  refine g_iload_n (by decide +kernel : decode prog_10_method_104_code 23 = .ok (.iload_n 1, 1)) rfl ?_
  refine g_callVI [.int x] (by decide +kernel : decode prog_10_method_104_code 24 = .ok (.invokevirtual 318, 3)) lk_Md_318 (m_looksPlain_4 σ (upd B r (nI 31)) (r + 1) x hk hn ha (by omega)) rfl rfl rfl rfl (Nat.le_of_ble_eq_true rfl) (Nat.le_of_ble_eq_true rfl) (fun r24 s24 h24 => ?_)
  obtain ⟨rfl, rfl⟩ := h24
  refine g_istore_n (L' := [some (.ref 0), some (.int x), some (.int (lV 4 n a x ^^^ nI 12))]) (by decide +kernel : decode prog_10_method_104_code 27 = .ok (.istore_n 2, 1)) (Nat.le_of_ble_eq_true rfl) rfl ?_
  refine g_iload_n (by decide +kernel : decode prog_10_method_104_code 28 = .ok (.iload_n 2, 1)) rfl ?_
  refine g_aload_n (by decide +kernel : decode prog_10_method_104_code 29 = .ok (.aload_n 0, 1)) rfl ?_
  refine g_aload_n (by decide +kernel : decode prog_10_method_104_code 30 = .ok (.aload_n 0, 1)) rfl ?_
  refine g_getI (by decide +kernel : decode prog_10_method_104_code 31 = .ok (.getfield 288, 3)) fl_Md_288.get rfl rfl ?_
  refine g_top (w := nI n) (hn) ?_
  refine g_callVI [.int (nI n)] (by decide +kernel : decode prog_10_method_104_code 34 = .ok (.invokevirtual 321, 3)) lk_Md_321 (m_parts_4e σ (wl (upd (upd B r (nI 31)) (r + 1) (nI 13)) (r + 1 + 1) (lC 4)) (r + 1 + 1 + 8) (nI n) hk hn ha (by omega) hn7 ha9 hna) rfl rfl rfl rfl (Nat.le_of_ble_eq_true rfl) (Nat.le_of_ble_eq_true rfl) (fun r34 s34 h34 => ?_)
  obtain ⟨rfl, rfl⟩ := h34
  refine g_isub (by decide +kernel : decode prog_10_method_104_code 37 = .ok (.isub, 1)) ?_
  exact g_iret hR (by decide +kernel : decode prog_10_method_104_code 38 = .ok (.ireturn, 1)) rfl ⟨_, rfl, ⟨rfl, rfl⟩⟩
set_option maxRecDepth 20000 in
theorem m_parts_5e (σ : Store) (B : Row) (r : Nat) (x : Int32) {n a : Nat} (hk : σ 0 23 = nI 5) (hn : σ 0 24 = nI n) (ha : σ 0 25 = nI a) (hr : r ≤ 13) (hn7 : n ≤ 7) (ha9 : a ≤ 9) (hna : n = a) : Ct ΛM mt_Md_parts 4 [.ref 0, .int x] (aS σ B r 0) (PF (pV 5 n a x) (aS σ (wl B r (pC 5 n a)) (r + 2) 1)) := by
  refine Ct.of (by decide) (Nat.le_of_ble_eq_true rfl) (fun X hR => ?_)
  show G (ΛM, mt_Md_parts, 4) X (aS σ B r 0) [some (.ref 0), some (.int x), none] [] 0
  refine g_aload_n (by decide +kernel : decode prog_10_method_102_code 0 = .ok (.aload_n 0, 1)) rfl ?_
  refine g_getI (by decide +kernel : decode prog_10_method_102_code 1 = .ok (.getfield 294, 3)) fl_Md_294.get rfl rfl ?_
  refine g_top (w := nI 5) (hk) ?_
  refine g_iconst (v := nI 3) (by decide +kernel : decode prog_10_method_102_code 4 = .ok (.iconst 3, 1)) (by decide) ?_
  refine g_icmp_neN (tgt := 27) (by decide +kernel : decode prog_10_method_102_code 5 = .ok (.if_icmp .ne 22, 3)) (by decide) (by decide) (by decide) (fun _ => ?_) (fun h => False.elim (by revert h; decide))
  refine g_aload_n (by decide +kernel : decode prog_10_method_102_code 27 = .ok (.aload_n 0, 1)) rfl ?_
  refine g_getI (by decide +kernel : decode prog_10_method_102_code 28 = .ok (.getfield 294, 3)) fl_Md_294.get rfl rfl ?_
  refine g_top (w := nI 5) (hk) ?_
  refine g_iconst (v := nI 5) (by decide +kernel : decode prog_10_method_102_code 31 = .ok (.iconst 5, 1)) (by decide) ?_
  refine g_icmp_neN (tgt := 69) (by decide +kernel : decode prog_10_method_102_code 32 = .ok (.if_icmp .ne 37, 3)) (by decide) (by decide) (by decide) (fun h => False.elim (by revert h; decide)) (fun _ => ?_)
  refine g_aload_n (by decide +kernel : decode prog_10_method_102_code 35 = .ok (.aload_n 0, 1)) rfl ?_
  refine g_bipush (v := nI 61) (by decide +kernel : decode prog_10_method_102_code 36 = .ok (.bipush 61, 2)) (by decide) ?_
  refine g_callVV [.int (nI 61)] (by decide +kernel : decode prog_10_method_102_code 38 = .ok (.invokevirtual 285, 3)) lk_Md_285 (m_runs σ B r 0 (nI 61) (by omega)) rfl rfl rfl rfl (Nat.le_of_ble_eq_true rfl) (Nat.le_of_ble_eq_true rfl) (fun s38 h38 => ?_)
  obtain rfl := h38
  refine g_aload_n (by decide +kernel : decode prog_10_method_102_code 41 = .ok (.aload_n 0, 1)) rfl ?_
  refine g_iload_n (by decide +kernel : decode prog_10_method_102_code 42 = .ok (.iload_n 1, 1)) rfl ?_
  refine g_callVI [.int x] (by decide +kernel : decode prog_10_method_102_code 43 = .ok (.invokevirtual 312, 3)) lk_Md_312 (m_partsPlain_e σ (upd B r (nI 61)) (r + 1) x hn ha (by omega) hn7 ha9 hna) rfl rfl rfl rfl (Nat.le_of_ble_eq_true rfl) (Nat.le_of_ble_eq_true rfl) (fun r43 s43 h43 => ?_)
  obtain ⟨rfl, rfl⟩ := h43
  refine g_istore_n (L' := [some (.ref 0), some (.int x), some (.int (pP n a x))]) (by decide +kernel : decode prog_10_method_102_code 46 = .ok (.istore_n 2, 1)) (Nat.le_of_ble_eq_true rfl) rfl ?_
  refine g_aload_n (by decide +kernel : decode prog_10_method_102_code 47 = .ok (.aload_n 0, 1)) rfl ?_
  refine g_getI (by decide +kernel : decode prog_10_method_102_code 48 = .ok (.getfield 309, 3)) fl_Md_309.get rfl rfl ?_
  refine g_top (w := nI 1) (rfl) ?_
  refine g_if_eqN (tgt := 58) (by decide +kernel : decode prog_10_method_102_code 51 = .ok (.ifCond .eq 7, 3)) (by decide) (by decide) (fun h => False.elim (by revert h; decide)) (fun _ => ?_)
  refine g_iconst (v := nI 0) (by decide +kernel : decode prog_10_method_102_code 54 = .ok (.iconst 0, 1)) (by decide) ?_
  refine g_goto (tgt := 68) (by decide +kernel : decode prog_10_method_102_code 55 = .ok (.goto 13, 3)) (by decide) ?_
  exact g_iret hR (by decide +kernel : decode prog_10_method_102_code 68 = .ok (.ireturn, 1)) rfl ⟨_, rfl, ⟨by show _ = (if n = a then nI 0 else pP n a x ^^^ cV 5 n (nI n)); rw [if_pos hna], by show _ = aS σ (wl B r (nI 61 :: nI 12 :: (if n = a then [] else cC 5))) _ _; rw [if_pos hna]; rfl⟩⟩
set_option maxRecDepth 20000 in
theorem m_looksPlain_5 (σ : Store) (B : Row) (r : Nat) (x : Int32) {n a : Nat} (hk : σ 0 23 = nI 5) (hn : σ 0 24 = nI n) (ha : σ 0 25 = nI a) (hr : r ≤ 7) : Ct ΛM mt_Md_looksPlain 6 [.ref 0, .int x] (aS σ B r 0) (PF (lV 5 n a x ^^^ nI 12) (aS σ (wl (upd B r (nI 13)) (r + 1) (lC 5)) (r + 1 + 2) 0)) := by
  refine Ct.of (by decide) (Nat.le_of_ble_eq_true rfl) (fun X hR => ?_)
  show G (ΛM, mt_Md_looksPlain, 6) X (aS σ B r 0) [some (.ref 0), some (.int x)] [] 0
  refine g_aload_n (by decide +kernel : decode prog_10_method_103_code 0 = .ok (.aload_n 0, 1)) rfl ?_
  refine g_bipush (v := nI 13) (by decide +kernel : decode prog_10_method_103_code 1 = .ok (.bipush 13, 2)) (by decide) ?_
  refine g_callVV [.int (nI 13)] (by decide +kernel : decode prog_10_method_103_code 3 = .ok (.invokevirtual 285, 3)) lk_Md_285 (m_runs σ B r 0 (nI 13) (by omega)) rfl rfl rfl rfl (Nat.le_of_ble_eq_true rfl) (Nat.le_of_ble_eq_true rfl) (fun s3 h3 => ?_)
  obtain rfl := h3
  refine g_aload_n (by decide +kernel : decode prog_10_method_103_code 6 = .ok (.aload_n 0, 1)) rfl ?_
  refine g_iload_n (by decide +kernel : decode prog_10_method_103_code 7 = .ok (.iload_n 1, 1)) rfl ?_
  refine g_callVI [.int x] (by decide +kernel : decode prog_10_method_103_code 8 = .ok (.invokevirtual 315, 3)) lk_Md_315 (m_calls_5 σ (upd B r (nI 13)) (r + 1) x hk hn ha (by omega)) rfl rfl rfl rfl (Nat.le_of_ble_eq_true rfl) (Nat.le_of_ble_eq_true rfl) (fun r8 s8 h8 => ?_)
  obtain ⟨rfl, rfl⟩ := h8
  refine g_bipush (v := nI 12) (by decide +kernel : decode prog_10_method_103_code 11 = .ok (.bipush 12, 2)) (by decide) ?_
  refine g_ixor (by decide +kernel : decode prog_10_method_103_code 13 = .ok (.ixor, 1)) ?_
  exact g_iret hR (by decide +kernel : decode prog_10_method_103_code 14 = .ok (.ireturn, 1)) rfl ⟨_, rfl, ⟨rfl, rfl⟩⟩
set_option maxRecDepth 20000 in
theorem m_looks_5e (σ : Store) (B : Row) (r : Nat) (x : Int32) {n a : Nat} (hk : σ 0 23 = nI 5) (hn : σ 0 24 = nI n) (ha : σ 0 25 = nI a) (hr : r ≤ 5) (hn7 : n ≤ 7) (ha9 : a ≤ 9) (hna : n = a) : Ct ΛM mt_Md_looks 7 [.ref 0, .int x] (aS σ B r 0) (PF (kV 5 n a x) (aS σ (wl B r (kC 5 n a)) (r + 4) 0)) := by
  refine Ct.of (by decide) (Nat.le_of_ble_eq_true rfl) (fun X hR => ?_)
  show G (ΛM, mt_Md_looks, 7) X (aS σ B r 0) [some (.ref 0), some (.int x), none] [] 0
  refine g_aload_n (by decide +kernel : decode prog_10_method_104_code 0 = .ok (.aload_n 0, 1)) rfl ?_
  refine g_getI (by decide +kernel : decode prog_10_method_104_code 1 = .ok (.getfield 294, 3)) fl_Md_294.get rfl rfl ?_
  refine g_top (w := nI 5) (hk) ?_
  refine g_iconst (v := nI 2) (by decide +kernel : decode prog_10_method_104_code 4 = .ok (.iconst 2, 1)) (by decide) ?_
  refine g_icmp_eqN (tgt := 16) (by decide +kernel : decode prog_10_method_104_code 5 = .ok (.if_icmp .eq 11, 3)) (by decide) (by decide) (by decide) (fun h => False.elim (by revert h; decide)) (fun _ => ?_)
  refine g_aload_n (by decide +kernel : decode prog_10_method_104_code 8 = .ok (.aload_n 0, 1)) rfl ?_
  refine g_getI (by decide +kernel : decode prog_10_method_104_code 9 = .ok (.getfield 294, 3)) fl_Md_294.get rfl rfl ?_
  refine g_top (w := nI 5) (hk) ?_
  refine g_iconst (v := nI 4) (by decide +kernel : decode prog_10_method_104_code 12 = .ok (.iconst 4, 1)) (by decide) ?_
  refine g_icmp_neN (tgt := 39) (by decide +kernel : decode prog_10_method_104_code 13 = .ok (.if_icmp .ne 26, 3)) (by decide) (by decide) (by decide) (fun _ => ?_) (fun h => False.elim (by revert h; decide))
  refine g_aload_n (by decide +kernel : decode prog_10_method_104_code 39 = .ok (.aload_n 0, 1)) rfl ?_
  refine g_getI (by decide +kernel : decode prog_10_method_104_code 40 = .ok (.getfield 294, 3)) fl_Md_294.get rfl rfl ?_
  refine g_top (w := nI 5) (hk) ?_
  refine g_iconst (v := nI 5) (by decide +kernel : decode prog_10_method_104_code 43 = .ok (.iconst 5, 1)) (by decide) ?_
  refine g_icmp_neN (tgt := 61) (by decide +kernel : decode prog_10_method_104_code 44 = .ok (.if_icmp .ne 17, 3)) (by decide) (by decide) (by decide) (fun h => False.elim (by revert h; decide)) (fun _ => ?_)
  refine g_aload_n (by decide +kernel : decode prog_10_method_104_code 47 = .ok (.aload_n 0, 1)) rfl ?_
  refine g_bipush (v := nI 60) (by decide +kernel : decode prog_10_method_104_code 48 = .ok (.bipush 60, 2)) (by decide) ?_
  refine g_callVV [.int (nI 60)] (by decide +kernel : decode prog_10_method_104_code 50 = .ok (.invokevirtual 285, 3)) lk_Md_285 (m_runs σ B r 0 (nI 60) (by omega)) rfl rfl rfl rfl (Nat.le_of_ble_eq_true rfl) (Nat.le_of_ble_eq_true rfl) (fun s50 h50 => ?_)
  obtain rfl := h50
  refine g_aload_n (by decide +kernel : decode prog_10_method_104_code 53 = .ok (.aload_n 0, 1)) rfl ?_
  refine g_iload_n (by decide +kernel : decode prog_10_method_104_code 54 = .ok (.iload_n 1, 1)) rfl ?_
  refine g_callVI [.int x] (by decide +kernel : decode prog_10_method_104_code 55 = .ok (.invokevirtual 318, 3)) lk_Md_318 (m_looksPlain_5 σ (upd B r (nI 60)) (r + 1) x hk hn ha (by omega)) rfl rfl rfl rfl (Nat.le_of_ble_eq_true rfl) (Nat.le_of_ble_eq_true rfl) (fun r55 s55 h55 => ?_)
  obtain ⟨rfl, rfl⟩ := h55
  refine g_iconst (v := nI 3) (by decide +kernel : decode prog_10_method_104_code 58 = .ok (.iconst 3, 1)) (by decide) ?_
  refine g_imul (by decide +kernel : decode prog_10_method_104_code 59 = .ok (.imul, 1)) ?_
  exact g_iret hR (by decide +kernel : decode prog_10_method_104_code 60 = .ok (.ireturn, 1)) rfl ⟨_, rfl, ⟨rfl, rfl⟩⟩
set_option maxRecDepth 20000 in
theorem m_partsPlain_d (σ : Store) (B : Row) (r : Nat) (x : Int32) {n a : Nat} (hn : σ 0 24 = nI n) (ha : σ 0 25 = nI a) (hr : r ≤ 25) (hn7 : n ≤ 7) (ha9 : a ≤ 9) (hna : n ≠ a) : Ct ΛM mt_Md_partsPlain 1 [.ref 0, .int x] (aS σ B r 0) (PF (pP n a x) (aS σ (upd B r (nI 12)) (r + 1) 0)) := by
  refine Ct.of (by decide) (Nat.le_of_ble_eq_true rfl) (fun X hR => ?_)
  show G (ΛM, mt_Md_partsPlain, 1) X (aS σ B r 0) [some (.ref 0), some (.int x)] [] 0
  refine g_aload_n (by decide +kernel : decode prog_10_method_101_code 0 = .ok (.aload_n 0, 1)) rfl ?_
  refine g_bipush (v := nI 12) (by decide +kernel : decode prog_10_method_101_code 1 = .ok (.bipush 12, 2)) (by decide) ?_
  refine g_callVV [.int (nI 12)] (by decide +kernel : decode prog_10_method_101_code 3 = .ok (.invokevirtual 285, 3)) lk_Md_285 (m_runs σ B r 0 (nI 12) (by omega)) rfl rfl rfl rfl (Nat.le_of_ble_eq_true rfl) (Nat.le_of_ble_eq_true rfl) (fun s3 h3 => ?_)
  obtain rfl := h3
  refine g_aload_n (by decide +kernel : decode prog_10_method_101_code 6 = .ok (.aload_n 0, 1)) rfl ?_
  refine g_aload_n (by decide +kernel : decode prog_10_method_101_code 7 = .ok (.aload_n 0, 1)) rfl ?_
  refine g_getI (by decide +kernel : decode prog_10_method_101_code 8 = .ok (.getfield 309, 3)) fl_Md_309.get rfl rfl ?_
  refine g_top (w := nI 0) (rfl) ?_
  refine g_if_neN (tgt := 25) (by decide +kernel : decode prog_10_method_101_code 11 = .ok (.ifCond .ne 14, 3)) (by decide) (by decide) (fun h => False.elim (by revert h; decide)) (fun _ => ?_)
  refine g_aload_n (by decide +kernel : decode prog_10_method_101_code 14 = .ok (.aload_n 0, 1)) rfl ?_
  refine g_getI (by decide +kernel : decode prog_10_method_101_code 15 = .ok (.getfield 288, 3)) fl_Md_288.get rfl rfl ?_
  refine g_top (w := nI n) (hn) ?_
  refine g_aload_n (by decide +kernel : decode prog_10_method_101_code 18 = .ok (.aload_n 0, 1)) rfl ?_
  refine g_getI (by decide +kernel : decode prog_10_method_101_code 19 = .ok (.getfield 303, 3)) fl_Md_303.get rfl rfl ?_
  refine g_top (w := nI a) (ha) ?_
  refine g_icmp_neN (tgt := 29) (by decide +kernel : decode prog_10_method_101_code 22 = .ok (.if_icmp .ne 7, 3)) (by decide) (by omega) (by omega) (fun _ => ?_) (fun h => absurd h hna)
  refine g_iconst (v := nI 0) (by decide +kernel : decode prog_10_method_101_code 29 = .ok (.iconst 0, 1)) (by decide) ?_
  refine g_putZ (by decide +kernel : decode prog_10_method_101_code 30 = .ok (.putfield 309, 3)) fl_Md_309 rfl rfl (by decide) ?_
  refine g_sto (aS_p _ _ _ _ _) ?_
  refine g_aload_n (by decide +kernel : decode prog_10_method_101_code 33 = .ok (.aload_n 0, 1)) rfl ?_
  refine g_getI (by decide +kernel : decode prog_10_method_101_code 34 = .ok (.getfield 309, 3)) fl_Md_309.get rfl rfl ?_
  refine g_top (w := nI 0) (rfl) ?_
  refine g_if_eqN (tgt := 44) (by decide +kernel : decode prog_10_method_101_code 37 = .ok (.ifCond .eq 7, 3)) (by decide) (by decide) (fun _ => ?_) (fun h => False.elim (by revert h; decide))
  refine g_iload_n (by decide +kernel : decode prog_10_method_101_code 44 = .ok (.iload_n 1, 1)) rfl ?_
  refine g_aload_n (by decide +kernel : decode prog_10_method_101_code 45 = .ok (.aload_n 0, 1)) rfl ?_
  refine g_getI (by decide +kernel : decode prog_10_method_101_code 46 = .ok (.getfield 303, 3)) fl_Md_303.get rfl rfl ?_
  refine g_top (w := nI a) (ha) ?_
  refine g_aload_n (by decide +kernel : decode prog_10_method_101_code 49 = .ok (.aload_n 0, 1)) rfl ?_
  refine g_getI (by decide +kernel : decode prog_10_method_101_code 50 = .ok (.getfield 288, 3)) fl_Md_288.get rfl rfl ?_
  refine g_top (w := nI n) (hn) ?_
  refine g_isub (by decide +kernel : decode prog_10_method_101_code 53 = .ok (.isub, 1)) ?_
  refine g_idiv (by decide +kernel : decode prog_10_method_101_code 54 = .ok (.idiv, 1)) (fun z => hna ((nI_eq (by omega) (by omega)).mp (sub_z z)).symm) ?_
  exact g_iret hR (by decide +kernel : decode prog_10_method_101_code 55 = .ok (.ireturn, 1)) rfl ⟨_, rfl, ⟨by unfold pP; rw [if_neg hna], rfl⟩⟩
set_option maxRecDepth 20000 in
theorem m_parts_0d (σ : Store) (B : Row) (r : Nat) (x : Int32) {n a : Nat} (hk : σ 0 23 = nI 0) (hn : σ 0 24 = nI n) (ha : σ 0 25 = nI a) (hr : r ≤ 20) (hn7 : n ≤ 7) (ha9 : a ≤ 9) (hna : n ≠ a) : Ct ΛM mt_Md_parts 4 [.ref 0, .int x] (aS σ B r 0) (PF (pV 0 n a x) (aS σ (wl B r (pC 0 n a)) (r + 1) 0)) := by
  refine Ct.of (by decide) (Nat.le_of_ble_eq_true rfl) (fun X hR => ?_)
  show G (ΛM, mt_Md_parts, 4) X (aS σ B r 0) [some (.ref 0), some (.int x), none] [] 0
  refine g_aload_n (by decide +kernel : decode prog_10_method_102_code 0 = .ok (.aload_n 0, 1)) rfl ?_
  refine g_getI (by decide +kernel : decode prog_10_method_102_code 1 = .ok (.getfield 294, 3)) fl_Md_294.get rfl rfl ?_
  refine g_top (w := nI 0) (hk) ?_
  refine g_iconst (v := nI 3) (by decide +kernel : decode prog_10_method_102_code 4 = .ok (.iconst 3, 1)) (by decide) ?_
  refine g_icmp_neN (tgt := 27) (by decide +kernel : decode prog_10_method_102_code 5 = .ok (.if_icmp .ne 22, 3)) (by decide) (by decide) (by decide) (fun _ => ?_) (fun h => False.elim (by revert h; decide))
  refine g_aload_n (by decide +kernel : decode prog_10_method_102_code 27 = .ok (.aload_n 0, 1)) rfl ?_
  refine g_getI (by decide +kernel : decode prog_10_method_102_code 28 = .ok (.getfield 294, 3)) fl_Md_294.get rfl rfl ?_
  refine g_top (w := nI 0) (hk) ?_
  refine g_iconst (v := nI 5) (by decide +kernel : decode prog_10_method_102_code 31 = .ok (.iconst 5, 1)) (by decide) ?_
  refine g_icmp_neN (tgt := 69) (by decide +kernel : decode prog_10_method_102_code 32 = .ok (.if_icmp .ne 37, 3)) (by decide) (by decide) (by decide) (fun _ => ?_) (fun h => False.elim (by revert h; decide))
  refine g_aload_n (by decide +kernel : decode prog_10_method_102_code 69 = .ok (.aload_n 0, 1)) rfl ?_
  refine g_iload_n (by decide +kernel : decode prog_10_method_102_code 70 = .ok (.iload_n 1, 1)) rfl ?_
  refine g_callVI [.int x] (by decide +kernel : decode prog_10_method_102_code 71 = .ok (.invokevirtual 312, 3)) lk_Md_312 (m_partsPlain_d σ B r x hn ha (by omega) hn7 ha9 hna) rfl rfl rfl rfl (Nat.le_of_ble_eq_true rfl) (Nat.le_of_ble_eq_true rfl) (fun r71 s71 h71 => ?_)
  obtain ⟨rfl, rfl⟩ := h71
  exact g_iret hR (by decide +kernel : decode prog_10_method_102_code 74 = .ok (.ireturn, 1)) rfl ⟨_, rfl, ⟨rfl, rfl⟩⟩
set_option maxRecDepth 20000 in
theorem m_looks_0d (σ : Store) (B : Row) (r : Nat) (x : Int32) {n a : Nat} (hk : σ 0 23 = nI 0) (hn : σ 0 24 = nI n) (ha : σ 0 25 = nI a) (hr : r ≤ 5) (hn7 : n ≤ 7) (ha9 : a ≤ 9) (hna : n ≠ a) : Ct ΛM mt_Md_looks 7 [.ref 0, .int x] (aS σ B r 0) (PF (kV 0 n a x) (aS σ (wl B r (kC 0 n a)) (r + 3) 0)) := by
  refine Ct.of (by decide) (Nat.le_of_ble_eq_true rfl) (fun X hR => ?_)
  show G (ΛM, mt_Md_looks, 7) X (aS σ B r 0) [some (.ref 0), some (.int x), none] [] 0
  refine g_aload_n (by decide +kernel : decode prog_10_method_104_code 0 = .ok (.aload_n 0, 1)) rfl ?_
  refine g_getI (by decide +kernel : decode prog_10_method_104_code 1 = .ok (.getfield 294, 3)) fl_Md_294.get rfl rfl ?_
  refine g_top (w := nI 0) (hk) ?_
  refine g_iconst (v := nI 2) (by decide +kernel : decode prog_10_method_104_code 4 = .ok (.iconst 2, 1)) (by decide) ?_
  refine g_icmp_eqN (tgt := 16) (by decide +kernel : decode prog_10_method_104_code 5 = .ok (.if_icmp .eq 11, 3)) (by decide) (by decide) (by decide) (fun h => False.elim (by revert h; decide)) (fun _ => ?_)
  refine g_aload_n (by decide +kernel : decode prog_10_method_104_code 8 = .ok (.aload_n 0, 1)) rfl ?_
  refine g_getI (by decide +kernel : decode prog_10_method_104_code 9 = .ok (.getfield 294, 3)) fl_Md_294.get rfl rfl ?_
  refine g_top (w := nI 0) (hk) ?_
  refine g_iconst (v := nI 4) (by decide +kernel : decode prog_10_method_104_code 12 = .ok (.iconst 4, 1)) (by decide) ?_
  refine g_icmp_neN (tgt := 39) (by decide +kernel : decode prog_10_method_104_code 13 = .ok (.if_icmp .ne 26, 3)) (by decide) (by decide) (by decide) (fun _ => ?_) (fun h => False.elim (by revert h; decide))
  refine g_aload_n (by decide +kernel : decode prog_10_method_104_code 39 = .ok (.aload_n 0, 1)) rfl ?_
  refine g_getI (by decide +kernel : decode prog_10_method_104_code 40 = .ok (.getfield 294, 3)) fl_Md_294.get rfl rfl ?_
  refine g_top (w := nI 0) (hk) ?_
  refine g_iconst (v := nI 5) (by decide +kernel : decode prog_10_method_104_code 43 = .ok (.iconst 5, 1)) (by decide) ?_
  refine g_icmp_neN (tgt := 61) (by decide +kernel : decode prog_10_method_104_code 44 = .ok (.if_icmp .ne 17, 3)) (by decide) (by decide) (by decide) (fun _ => ?_) (fun h => False.elim (by revert h; decide))
  refine g_aload_n (by decide +kernel : decode prog_10_method_104_code 61 = .ok (.aload_n 0, 1)) rfl ?_
  refine g_iload_n (by decide +kernel : decode prog_10_method_104_code 62 = .ok (.iload_n 1, 1)) rfl ?_
  refine g_callVI [.int x] (by decide +kernel : decode prog_10_method_104_code 63 = .ok (.invokevirtual 318, 3)) lk_Md_318 (m_looksPlain_0 σ B r x hk hn ha (by omega)) rfl rfl rfl rfl (Nat.le_of_ble_eq_true rfl) (Nat.le_of_ble_eq_true rfl) (fun r63 s63 h63 => ?_)
  obtain ⟨rfl, rfl⟩ := h63
  exact g_iret hR (by decide +kernel : decode prog_10_method_104_code 66 = .ok (.ireturn, 1)) rfl ⟨_, rfl, ⟨rfl, rfl⟩⟩
set_option maxRecDepth 20000 in
theorem m_parts_1d (σ : Store) (B : Row) (r : Nat) (x : Int32) {n a : Nat} (hk : σ 0 23 = nI 1) (hn : σ 0 24 = nI n) (ha : σ 0 25 = nI a) (hr : r ≤ 20) (hn7 : n ≤ 7) (ha9 : a ≤ 9) (hna : n ≠ a) : Ct ΛM mt_Md_parts 4 [.ref 0, .int x] (aS σ B r 0) (PF (pV 1 n a x) (aS σ (wl B r (pC 1 n a)) (r + 1) 0)) := by
  refine Ct.of (by decide) (Nat.le_of_ble_eq_true rfl) (fun X hR => ?_)
  show G (ΛM, mt_Md_parts, 4) X (aS σ B r 0) [some (.ref 0), some (.int x), none] [] 0
  refine g_aload_n (by decide +kernel : decode prog_10_method_102_code 0 = .ok (.aload_n 0, 1)) rfl ?_
  refine g_getI (by decide +kernel : decode prog_10_method_102_code 1 = .ok (.getfield 294, 3)) fl_Md_294.get rfl rfl ?_
  refine g_top (w := nI 1) (hk) ?_
  refine g_iconst (v := nI 3) (by decide +kernel : decode prog_10_method_102_code 4 = .ok (.iconst 3, 1)) (by decide) ?_
  refine g_icmp_neN (tgt := 27) (by decide +kernel : decode prog_10_method_102_code 5 = .ok (.if_icmp .ne 22, 3)) (by decide) (by decide) (by decide) (fun _ => ?_) (fun h => False.elim (by revert h; decide))
  refine g_aload_n (by decide +kernel : decode prog_10_method_102_code 27 = .ok (.aload_n 0, 1)) rfl ?_
  refine g_getI (by decide +kernel : decode prog_10_method_102_code 28 = .ok (.getfield 294, 3)) fl_Md_294.get rfl rfl ?_
  refine g_top (w := nI 1) (hk) ?_
  refine g_iconst (v := nI 5) (by decide +kernel : decode prog_10_method_102_code 31 = .ok (.iconst 5, 1)) (by decide) ?_
  refine g_icmp_neN (tgt := 69) (by decide +kernel : decode prog_10_method_102_code 32 = .ok (.if_icmp .ne 37, 3)) (by decide) (by decide) (by decide) (fun _ => ?_) (fun h => False.elim (by revert h; decide))
  refine g_aload_n (by decide +kernel : decode prog_10_method_102_code 69 = .ok (.aload_n 0, 1)) rfl ?_
  refine g_iload_n (by decide +kernel : decode prog_10_method_102_code 70 = .ok (.iload_n 1, 1)) rfl ?_
  refine g_callVI [.int x] (by decide +kernel : decode prog_10_method_102_code 71 = .ok (.invokevirtual 312, 3)) lk_Md_312 (m_partsPlain_d σ B r x hn ha (by omega) hn7 ha9 hna) rfl rfl rfl rfl (Nat.le_of_ble_eq_true rfl) (Nat.le_of_ble_eq_true rfl) (fun r71 s71 h71 => ?_)
  obtain ⟨rfl, rfl⟩ := h71
  exact g_iret hR (by decide +kernel : decode prog_10_method_102_code 74 = .ok (.ireturn, 1)) rfl ⟨_, rfl, ⟨rfl, rfl⟩⟩
set_option maxRecDepth 20000 in
theorem m_looks_1d (σ : Store) (B : Row) (r : Nat) (x : Int32) {n a : Nat} (hk : σ 0 23 = nI 1) (hn : σ 0 24 = nI n) (ha : σ 0 25 = nI a) (hr : r ≤ 5) (hn7 : n ≤ 7) (ha9 : a ≤ 9) (hna : n ≠ a) : Ct ΛM mt_Md_looks 7 [.ref 0, .int x] (aS σ B r 0) (PF (kV 1 n a x) (aS σ (wl B r (kC 1 n a)) (r + 4) 0)) := by
  refine Ct.of (by decide) (Nat.le_of_ble_eq_true rfl) (fun X hR => ?_)
  show G (ΛM, mt_Md_looks, 7) X (aS σ B r 0) [some (.ref 0), some (.int x), none] [] 0
  refine g_aload_n (by decide +kernel : decode prog_10_method_104_code 0 = .ok (.aload_n 0, 1)) rfl ?_
  refine g_getI (by decide +kernel : decode prog_10_method_104_code 1 = .ok (.getfield 294, 3)) fl_Md_294.get rfl rfl ?_
  refine g_top (w := nI 1) (hk) ?_
  refine g_iconst (v := nI 2) (by decide +kernel : decode prog_10_method_104_code 4 = .ok (.iconst 2, 1)) (by decide) ?_
  refine g_icmp_eqN (tgt := 16) (by decide +kernel : decode prog_10_method_104_code 5 = .ok (.if_icmp .eq 11, 3)) (by decide) (by decide) (by decide) (fun h => False.elim (by revert h; decide)) (fun _ => ?_)
  refine g_aload_n (by decide +kernel : decode prog_10_method_104_code 8 = .ok (.aload_n 0, 1)) rfl ?_
  refine g_getI (by decide +kernel : decode prog_10_method_104_code 9 = .ok (.getfield 294, 3)) fl_Md_294.get rfl rfl ?_
  refine g_top (w := nI 1) (hk) ?_
  refine g_iconst (v := nI 4) (by decide +kernel : decode prog_10_method_104_code 12 = .ok (.iconst 4, 1)) (by decide) ?_
  refine g_icmp_neN (tgt := 39) (by decide +kernel : decode prog_10_method_104_code 13 = .ok (.if_icmp .ne 26, 3)) (by decide) (by decide) (by decide) (fun _ => ?_) (fun h => False.elim (by revert h; decide))
  refine g_aload_n (by decide +kernel : decode prog_10_method_104_code 39 = .ok (.aload_n 0, 1)) rfl ?_
  refine g_getI (by decide +kernel : decode prog_10_method_104_code 40 = .ok (.getfield 294, 3)) fl_Md_294.get rfl rfl ?_
  refine g_top (w := nI 1) (hk) ?_
  refine g_iconst (v := nI 5) (by decide +kernel : decode prog_10_method_104_code 43 = .ok (.iconst 5, 1)) (by decide) ?_
  refine g_icmp_neN (tgt := 61) (by decide +kernel : decode prog_10_method_104_code 44 = .ok (.if_icmp .ne 17, 3)) (by decide) (by decide) (by decide) (fun _ => ?_) (fun h => False.elim (by revert h; decide))
  refine g_aload_n (by decide +kernel : decode prog_10_method_104_code 61 = .ok (.aload_n 0, 1)) rfl ?_
  refine g_iload_n (by decide +kernel : decode prog_10_method_104_code 62 = .ok (.iload_n 1, 1)) rfl ?_
  refine g_callVI [.int x] (by decide +kernel : decode prog_10_method_104_code 63 = .ok (.invokevirtual 318, 3)) lk_Md_318 (m_looksPlain_1 σ B r x hk hn ha (by omega)) rfl rfl rfl rfl (Nat.le_of_ble_eq_true rfl) (Nat.le_of_ble_eq_true rfl) (fun r63 s63 h63 => ?_)
  obtain ⟨rfl, rfl⟩ := h63
  exact g_iret hR (by decide +kernel : decode prog_10_method_104_code 66 = .ok (.ireturn, 1)) rfl ⟨_, rfl, ⟨rfl, rfl⟩⟩
set_option maxRecDepth 20000 in
theorem m_parts_2d (σ : Store) (B : Row) (r : Nat) (x : Int32) {n a : Nat} (hk : σ 0 23 = nI 2) (hn : σ 0 24 = nI n) (ha : σ 0 25 = nI a) (hr : r ≤ 20) (hn7 : n ≤ 7) (ha9 : a ≤ 9) (hna : n ≠ a) : Ct ΛM mt_Md_parts 4 [.ref 0, .int x] (aS σ B r 0) (PF (pV 2 n a x) (aS σ (wl B r (pC 2 n a)) (r + 1) 0)) := by
  refine Ct.of (by decide) (Nat.le_of_ble_eq_true rfl) (fun X hR => ?_)
  show G (ΛM, mt_Md_parts, 4) X (aS σ B r 0) [some (.ref 0), some (.int x), none] [] 0
  refine g_aload_n (by decide +kernel : decode prog_10_method_102_code 0 = .ok (.aload_n 0, 1)) rfl ?_
  refine g_getI (by decide +kernel : decode prog_10_method_102_code 1 = .ok (.getfield 294, 3)) fl_Md_294.get rfl rfl ?_
  refine g_top (w := nI 2) (hk) ?_
  refine g_iconst (v := nI 3) (by decide +kernel : decode prog_10_method_102_code 4 = .ok (.iconst 3, 1)) (by decide) ?_
  refine g_icmp_neN (tgt := 27) (by decide +kernel : decode prog_10_method_102_code 5 = .ok (.if_icmp .ne 22, 3)) (by decide) (by decide) (by decide) (fun _ => ?_) (fun h => False.elim (by revert h; decide))
  refine g_aload_n (by decide +kernel : decode prog_10_method_102_code 27 = .ok (.aload_n 0, 1)) rfl ?_
  refine g_getI (by decide +kernel : decode prog_10_method_102_code 28 = .ok (.getfield 294, 3)) fl_Md_294.get rfl rfl ?_
  refine g_top (w := nI 2) (hk) ?_
  refine g_iconst (v := nI 5) (by decide +kernel : decode prog_10_method_102_code 31 = .ok (.iconst 5, 1)) (by decide) ?_
  refine g_icmp_neN (tgt := 69) (by decide +kernel : decode prog_10_method_102_code 32 = .ok (.if_icmp .ne 37, 3)) (by decide) (by decide) (by decide) (fun _ => ?_) (fun h => False.elim (by revert h; decide))
  refine g_aload_n (by decide +kernel : decode prog_10_method_102_code 69 = .ok (.aload_n 0, 1)) rfl ?_
  refine g_iload_n (by decide +kernel : decode prog_10_method_102_code 70 = .ok (.iload_n 1, 1)) rfl ?_
  refine g_callVI [.int x] (by decide +kernel : decode prog_10_method_102_code 71 = .ok (.invokevirtual 312, 3)) lk_Md_312 (m_partsPlain_d σ B r x hn ha (by omega) hn7 ha9 hna) rfl rfl rfl rfl (Nat.le_of_ble_eq_true rfl) (Nat.le_of_ble_eq_true rfl) (fun r71 s71 h71 => ?_)
  obtain ⟨rfl, rfl⟩ := h71
  exact g_iret hR (by decide +kernel : decode prog_10_method_102_code 74 = .ok (.ireturn, 1)) rfl ⟨_, rfl, ⟨rfl, rfl⟩⟩
set_option maxRecDepth 20000 in
theorem m_looks_2d (σ : Store) (B : Row) (r : Nat) (x : Int32) {n a : Nat} (hk : σ 0 23 = nI 2) (hn : σ 0 24 = nI n) (ha : σ 0 25 = nI a) (hr : r ≤ 5) (hn7 : n ≤ 7) (ha9 : a ≤ 9) (hna : n ≠ a) : Ct ΛM mt_Md_looks 7 [.ref 0, .int x] (aS σ B r 0) (PF (kV 2 n a x) (aS σ (wl B r (kC 2 n a)) (r + 6) 0)) := by
  refine Ct.of (by decide) (Nat.le_of_ble_eq_true rfl) (fun X hR => ?_)
  show G (ΛM, mt_Md_looks, 7) X (aS σ B r 0) [some (.ref 0), some (.int x), none] [] 0
  refine g_aload_n (by decide +kernel : decode prog_10_method_104_code 0 = .ok (.aload_n 0, 1)) rfl ?_
  refine g_getI (by decide +kernel : decode prog_10_method_104_code 1 = .ok (.getfield 294, 3)) fl_Md_294.get rfl rfl ?_
  refine g_top (w := nI 2) (hk) ?_
  refine g_iconst (v := nI 2) (by decide +kernel : decode prog_10_method_104_code 4 = .ok (.iconst 2, 1)) (by decide) ?_
  refine g_icmp_eqN (tgt := 16) (by decide +kernel : decode prog_10_method_104_code 5 = .ok (.if_icmp .eq 11, 3)) (by decide) (by decide) (by decide) (fun _ => ?_) (fun h => False.elim (by revert h; decide))
  refine g_aload_n (by decide +kernel : decode prog_10_method_104_code 16 = .ok (.aload_n 0, 1)) rfl ?_
  refine g_bipush (v := nI 31) (by decide +kernel : decode prog_10_method_104_code 17 = .ok (.bipush 31, 2)) (by decide) ?_
  refine g_callVV [.int (nI 31)] (by decide +kernel : decode prog_10_method_104_code 19 = .ok (.invokevirtual 285, 3)) lk_Md_285 (m_runs σ B r 0 (nI 31) (by omega)) rfl rfl rfl rfl (Nat.le_of_ble_eq_true rfl) (Nat.le_of_ble_eq_true rfl) (fun s19 h19 => ?_)
  obtain rfl := h19
  refine g_aload_n (by decide +kernel : decode prog_10_method_104_code 22 = .ok (.aload_n 0, 1)) rfl ?_
  refine g_iload_n (by decide +kernel : decode prog_10_method_104_code 23 = .ok (.iload_n 1, 1)) rfl ?_
  refine g_callVI [.int x] (by decide +kernel : decode prog_10_method_104_code 24 = .ok (.invokevirtual 318, 3)) lk_Md_318 (m_looksPlain_2 σ (upd B r (nI 31)) (r + 1) x hk hn ha (by omega)) rfl rfl rfl rfl (Nat.le_of_ble_eq_true rfl) (Nat.le_of_ble_eq_true rfl) (fun r24 s24 h24 => ?_)
  obtain ⟨rfl, rfl⟩ := h24
  refine g_istore_n (L' := [some (.ref 0), some (.int x), some (.int (lV 2 n a x ^^^ nI 12))]) (by decide +kernel : decode prog_10_method_104_code 27 = .ok (.istore_n 2, 1)) (Nat.le_of_ble_eq_true rfl) rfl ?_
  refine g_iload_n (by decide +kernel : decode prog_10_method_104_code 28 = .ok (.iload_n 2, 1)) rfl ?_
  refine g_aload_n (by decide +kernel : decode prog_10_method_104_code 29 = .ok (.aload_n 0, 1)) rfl ?_
  refine g_aload_n (by decide +kernel : decode prog_10_method_104_code 30 = .ok (.aload_n 0, 1)) rfl ?_
  refine g_getI (by decide +kernel : decode prog_10_method_104_code 31 = .ok (.getfield 288, 3)) fl_Md_288.get rfl rfl ?_
  refine g_top (w := nI n) (hn) ?_
  refine g_callVI [.int (nI n)] (by decide +kernel : decode prog_10_method_104_code 34 = .ok (.invokevirtual 321, 3)) lk_Md_321 (m_parts_2d σ (wl (upd (upd B r (nI 31)) (r + 1) (nI 13)) (r + 1 + 1) (lC 2)) (r + 1 + 1 + 3) (nI n) hk hn ha (by omega) hn7 ha9 hna) rfl rfl rfl rfl (Nat.le_of_ble_eq_true rfl) (Nat.le_of_ble_eq_true rfl) (fun r34 s34 h34 => ?_)
  obtain ⟨rfl, rfl⟩ := h34
  refine g_isub (by decide +kernel : decode prog_10_method_104_code 37 = .ok (.isub, 1)) ?_
  exact g_iret hR (by decide +kernel : decode prog_10_method_104_code 38 = .ok (.ireturn, 1)) rfl ⟨_, rfl, ⟨rfl, rfl⟩⟩
set_option maxRecDepth 20000 in
theorem m_parts_3d (σ : Store) (B : Row) (r : Nat) (x : Int32) {n a : Nat} (hk : σ 0 23 = nI 3) (hn : σ 0 24 = nI n) (ha : σ 0 25 = nI a) (hr : r ≤ 20) (hn7 : n ≤ 7) (ha9 : a ≤ 9) (hna : n ≠ a) : Ct ΛM mt_Md_parts 4 [.ref 0, .int x] (aS σ B r 0) (PF (pV 3 n a x) (aS σ (wl B r (pC 3 n a)) (r + 2) 0)) := by
  refine Ct.of (by decide) (Nat.le_of_ble_eq_true rfl) (fun X hR => ?_)
  show G (ΛM, mt_Md_parts, 4) X (aS σ B r 0) [some (.ref 0), some (.int x), none] [] 0
  refine g_aload_n (by decide +kernel : decode prog_10_method_102_code 0 = .ok (.aload_n 0, 1)) rfl ?_
  refine g_getI (by decide +kernel : decode prog_10_method_102_code 1 = .ok (.getfield 294, 3)) fl_Md_294.get rfl rfl ?_
  refine g_top (w := nI 3) (hk) ?_
  refine g_iconst (v := nI 3) (by decide +kernel : decode prog_10_method_102_code 4 = .ok (.iconst 3, 1)) (by decide) ?_
  refine g_icmp_neN (tgt := 27) (by decide +kernel : decode prog_10_method_102_code 5 = .ok (.if_icmp .ne 22, 3)) (by decide) (by decide) (by decide) (fun h => False.elim (by revert h; decide)) (fun _ => ?_)
  refine g_aload_n (by decide +kernel : decode prog_10_method_102_code 8 = .ok (.aload_n 0, 1)) rfl ?_
  refine g_bipush (v := nI 50) (by decide +kernel : decode prog_10_method_102_code 9 = .ok (.bipush 50, 2)) (by decide) ?_
  refine g_callVV [.int (nI 50)] (by decide +kernel : decode prog_10_method_102_code 11 = .ok (.invokevirtual 285, 3)) lk_Md_285 (m_runs σ B r 0 (nI 50) (by omega)) rfl rfl rfl rfl (Nat.le_of_ble_eq_true rfl) (Nat.le_of_ble_eq_true rfl) (fun s11 h11 => ?_)
  obtain rfl := h11
  refine g_aload_n (by decide +kernel : decode prog_10_method_102_code 14 = .ok (.aload_n 0, 1)) rfl ?_
  refine g_iload_n (by decide +kernel : decode prog_10_method_102_code 15 = .ok (.iload_n 1, 1)) rfl ?_
  refine g_aload_n (by decide +kernel : decode prog_10_method_102_code 16 = .ok (.aload_n 0, 1)) rfl ?_
  refine g_getI (by decide +kernel : decode prog_10_method_102_code 17 = .ok (.getfield 303, 3)) fl_Md_303.get rfl rfl ?_
  refine g_top (w := nI a) (ha) ?_
  refine g_iadd (by decide +kernel : decode prog_10_method_102_code 20 = .ok (.iadd, 1)) ?_
  refine g_callVI [.int (x + (nI a))] (by decide +kernel : decode prog_10_method_102_code 21 = .ok (.invokevirtual 312, 3)) lk_Md_312 (m_partsPlain_d σ (upd B r (nI 50)) (r + 1) (x + (nI a)) hn ha (by omega) hn7 ha9 hna) rfl rfl rfl rfl (Nat.le_of_ble_eq_true rfl) (Nat.le_of_ble_eq_true rfl) (fun r21 s21 h21 => ?_)
  obtain ⟨rfl, rfl⟩ := h21
  refine g_iconst (v := nI 2) (by decide +kernel : decode prog_10_method_102_code 24 = .ok (.iconst 2, 1)) (by decide) ?_
  refine g_imul (by decide +kernel : decode prog_10_method_102_code 25 = .ok (.imul, 1)) ?_
  exact g_iret hR (by decide +kernel : decode prog_10_method_102_code 26 = .ok (.ireturn, 1)) rfl ⟨_, rfl, ⟨rfl, rfl⟩⟩
set_option maxRecDepth 20000 in
theorem m_looks_3d (σ : Store) (B : Row) (r : Nat) (x : Int32) {n a : Nat} (hk : σ 0 23 = nI 3) (hn : σ 0 24 = nI n) (ha : σ 0 25 = nI a) (hr : r ≤ 5) (hn7 : n ≤ 7) (ha9 : a ≤ 9) (hna : n ≠ a) : Ct ΛM mt_Md_looks 7 [.ref 0, .int x] (aS σ B r 0) (PF (kV 3 n a x) (aS σ (wl B r (kC 3 n a)) (r + 5) 0)) := by
  refine Ct.of (by decide) (Nat.le_of_ble_eq_true rfl) (fun X hR => ?_)
  show G (ΛM, mt_Md_looks, 7) X (aS σ B r 0) [some (.ref 0), some (.int x), none] [] 0
  refine g_aload_n (by decide +kernel : decode prog_10_method_104_code 0 = .ok (.aload_n 0, 1)) rfl ?_
  refine g_getI (by decide +kernel : decode prog_10_method_104_code 1 = .ok (.getfield 294, 3)) fl_Md_294.get rfl rfl ?_
  refine g_top (w := nI 3) (hk) ?_
  refine g_iconst (v := nI 2) (by decide +kernel : decode prog_10_method_104_code 4 = .ok (.iconst 2, 1)) (by decide) ?_
  refine g_icmp_eqN (tgt := 16) (by decide +kernel : decode prog_10_method_104_code 5 = .ok (.if_icmp .eq 11, 3)) (by decide) (by decide) (by decide) (fun h => False.elim (by revert h; decide)) (fun _ => ?_)
  refine g_aload_n (by decide +kernel : decode prog_10_method_104_code 8 = .ok (.aload_n 0, 1)) rfl ?_
  refine g_getI (by decide +kernel : decode prog_10_method_104_code 9 = .ok (.getfield 294, 3)) fl_Md_294.get rfl rfl ?_
  refine g_top (w := nI 3) (hk) ?_
  refine g_iconst (v := nI 4) (by decide +kernel : decode prog_10_method_104_code 12 = .ok (.iconst 4, 1)) (by decide) ?_
  refine g_icmp_neN (tgt := 39) (by decide +kernel : decode prog_10_method_104_code 13 = .ok (.if_icmp .ne 26, 3)) (by decide) (by decide) (by decide) (fun _ => ?_) (fun h => False.elim (by revert h; decide))
  refine g_aload_n (by decide +kernel : decode prog_10_method_104_code 39 = .ok (.aload_n 0, 1)) rfl ?_
  refine g_getI (by decide +kernel : decode prog_10_method_104_code 40 = .ok (.getfield 294, 3)) fl_Md_294.get rfl rfl ?_
  refine g_top (w := nI 3) (hk) ?_
  refine g_iconst (v := nI 5) (by decide +kernel : decode prog_10_method_104_code 43 = .ok (.iconst 5, 1)) (by decide) ?_
  refine g_icmp_neN (tgt := 61) (by decide +kernel : decode prog_10_method_104_code 44 = .ok (.if_icmp .ne 17, 3)) (by decide) (by decide) (by decide) (fun _ => ?_) (fun h => False.elim (by revert h; decide))
  refine g_aload_n (by decide +kernel : decode prog_10_method_104_code 61 = .ok (.aload_n 0, 1)) rfl ?_
  refine g_iload_n (by decide +kernel : decode prog_10_method_104_code 62 = .ok (.iload_n 1, 1)) rfl ?_
  refine g_callVI [.int x] (by decide +kernel : decode prog_10_method_104_code 63 = .ok (.invokevirtual 318, 3)) lk_Md_318 (m_looksPlain_3 σ B r x hk hn ha (by omega)) rfl rfl rfl rfl (Nat.le_of_ble_eq_true rfl) (Nat.le_of_ble_eq_true rfl) (fun r63 s63 h63 => ?_)
  obtain ⟨rfl, rfl⟩ := h63
  exact g_iret hR (by decide +kernel : decode prog_10_method_104_code 66 = .ok (.ireturn, 1)) rfl ⟨_, rfl, ⟨rfl, rfl⟩⟩
set_option maxRecDepth 20000 in
theorem m_parts_4d (σ : Store) (B : Row) (r : Nat) (x : Int32) {n a : Nat} (hk : σ 0 23 = nI 4) (hn : σ 0 24 = nI n) (ha : σ 0 25 = nI a) (hr : r ≤ 20) (hn7 : n ≤ 7) (ha9 : a ≤ 9) (hna : n ≠ a) : Ct ΛM mt_Md_parts 4 [.ref 0, .int x] (aS σ B r 0) (PF (pV 4 n a x) (aS σ (wl B r (pC 4 n a)) (r + 1) 0)) := by
  refine Ct.of (by decide) (Nat.le_of_ble_eq_true rfl) (fun X hR => ?_)
  show G (ΛM, mt_Md_parts, 4) X (aS σ B r 0) [some (.ref 0), some (.int x), none] [] 0
  refine g_aload_n (by decide +kernel : decode prog_10_method_102_code 0 = .ok (.aload_n 0, 1)) rfl ?_
  refine g_getI (by decide +kernel : decode prog_10_method_102_code 1 = .ok (.getfield 294, 3)) fl_Md_294.get rfl rfl ?_
  refine g_top (w := nI 4) (hk) ?_
  refine g_iconst (v := nI 3) (by decide +kernel : decode prog_10_method_102_code 4 = .ok (.iconst 3, 1)) (by decide) ?_
  refine g_icmp_neN (tgt := 27) (by decide +kernel : decode prog_10_method_102_code 5 = .ok (.if_icmp .ne 22, 3)) (by decide) (by decide) (by decide) (fun _ => ?_) (fun h => False.elim (by revert h; decide))
  refine g_aload_n (by decide +kernel : decode prog_10_method_102_code 27 = .ok (.aload_n 0, 1)) rfl ?_
  refine g_getI (by decide +kernel : decode prog_10_method_102_code 28 = .ok (.getfield 294, 3)) fl_Md_294.get rfl rfl ?_
  refine g_top (w := nI 4) (hk) ?_
  refine g_iconst (v := nI 5) (by decide +kernel : decode prog_10_method_102_code 31 = .ok (.iconst 5, 1)) (by decide) ?_
  refine g_icmp_neN (tgt := 69) (by decide +kernel : decode prog_10_method_102_code 32 = .ok (.if_icmp .ne 37, 3)) (by decide) (by decide) (by decide) (fun _ => ?_) (fun h => False.elim (by revert h; decide))
  refine g_aload_n (by decide +kernel : decode prog_10_method_102_code 69 = .ok (.aload_n 0, 1)) rfl ?_
  refine g_iload_n (by decide +kernel : decode prog_10_method_102_code 70 = .ok (.iload_n 1, 1)) rfl ?_
  refine g_callVI [.int x] (by decide +kernel : decode prog_10_method_102_code 71 = .ok (.invokevirtual 312, 3)) lk_Md_312 (m_partsPlain_d σ B r x hn ha (by omega) hn7 ha9 hna) rfl rfl rfl rfl (Nat.le_of_ble_eq_true rfl) (Nat.le_of_ble_eq_true rfl) (fun r71 s71 h71 => ?_)
  obtain ⟨rfl, rfl⟩ := h71
  exact g_iret hR (by decide +kernel : decode prog_10_method_102_code 74 = .ok (.ireturn, 1)) rfl ⟨_, rfl, ⟨rfl, rfl⟩⟩
set_option maxRecDepth 20000 in
theorem m_looks_4d (σ : Store) (B : Row) (r : Nat) (x : Int32) {n a : Nat} (hk : σ 0 23 = nI 4) (hn : σ 0 24 = nI n) (ha : σ 0 25 = nI a) (hr : r ≤ 5) (hn7 : n ≤ 7) (ha9 : a ≤ 9) (hna : n ≠ a) : Ct ΛM mt_Md_looks 7 [.ref 0, .int x] (aS σ B r 0) (PF (kV 4 n a x) (aS σ (wl B r (kC 4 n a)) (r + 11) 0)) := by
  refine Ct.of (by decide) (Nat.le_of_ble_eq_true rfl) (fun X hR => ?_)
  show G (ΛM, mt_Md_looks, 7) X (aS σ B r 0) [some (.ref 0), some (.int x), none] [] 0
  refine g_aload_n (by decide +kernel : decode prog_10_method_104_code 0 = .ok (.aload_n 0, 1)) rfl ?_
  refine g_getI (by decide +kernel : decode prog_10_method_104_code 1 = .ok (.getfield 294, 3)) fl_Md_294.get rfl rfl ?_
  refine g_top (w := nI 4) (hk) ?_
  refine g_iconst (v := nI 2) (by decide +kernel : decode prog_10_method_104_code 4 = .ok (.iconst 2, 1)) (by decide) ?_
  refine g_icmp_eqN (tgt := 16) (by decide +kernel : decode prog_10_method_104_code 5 = .ok (.if_icmp .eq 11, 3)) (by decide) (by decide) (by decide) (fun h => False.elim (by revert h; decide)) (fun _ => ?_)
  refine g_aload_n (by decide +kernel : decode prog_10_method_104_code 8 = .ok (.aload_n 0, 1)) rfl ?_
  refine g_getI (by decide +kernel : decode prog_10_method_104_code 9 = .ok (.getfield 294, 3)) fl_Md_294.get rfl rfl ?_
  refine g_top (w := nI 4) (hk) ?_
  refine g_iconst (v := nI 4) (by decide +kernel : decode prog_10_method_104_code 12 = .ok (.iconst 4, 1)) (by decide) ?_
  refine g_icmp_neN (tgt := 39) (by decide +kernel : decode prog_10_method_104_code 13 = .ok (.if_icmp .ne 26, 3)) (by decide) (by decide) (by decide) (fun h => False.elim (by revert h; decide)) (fun _ => ?_)
  refine g_aload_n (by decide +kernel : decode prog_10_method_104_code 16 = .ok (.aload_n 0, 1)) rfl ?_
  refine g_bipush (v := nI 31) (by decide +kernel : decode prog_10_method_104_code 17 = .ok (.bipush 31, 2)) (by decide) ?_
  refine g_callVV [.int (nI 31)] (by decide +kernel : decode prog_10_method_104_code 19 = .ok (.invokevirtual 285, 3)) lk_Md_285 (m_runs σ B r 0 (nI 31) (by omega)) rfl rfl rfl rfl (Nat.le_of_ble_eq_true rfl) (Nat.le_of_ble_eq_true rfl) (fun s19 h19 => ?_)
  obtain rfl := h19
  refine g_aload_n (by decide +kernel : decode prog_10_method_104_code 22 = .ok (.aload_n 0, 1)) rfl ?_
  refine g_iload_n (by decide +kernel : decode prog_10_method_104_code 23 = .ok (.iload_n 1, 1)) rfl ?_
  refine g_callVI [.int x] (by decide +kernel : decode prog_10_method_104_code 24 = .ok (.invokevirtual 318, 3)) lk_Md_318 (m_looksPlain_4 σ (upd B r (nI 31)) (r + 1) x hk hn ha (by omega)) rfl rfl rfl rfl (Nat.le_of_ble_eq_true rfl) (Nat.le_of_ble_eq_true rfl) (fun r24 s24 h24 => ?_)
  obtain ⟨rfl, rfl⟩ := h24
  refine g_istore_n (L' := [some (.ref 0), some (.int x), some (.int (lV 4 n a x ^^^ nI 12))]) (by decide +kernel : decode prog_10_method_104_code 27 = .ok (.istore_n 2, 1)) (Nat.le_of_ble_eq_true rfl) rfl ?_
  refine g_iload_n (by decide +kernel : decode prog_10_method_104_code 28 = .ok (.iload_n 2, 1)) rfl ?_
  refine g_aload_n (by decide +kernel : decode prog_10_method_104_code 29 = .ok (.aload_n 0, 1)) rfl ?_
  refine g_aload_n (by decide +kernel : decode prog_10_method_104_code 30 = .ok (.aload_n 0, 1)) rfl ?_
  refine g_getI (by decide +kernel : decode prog_10_method_104_code 31 = .ok (.getfield 288, 3)) fl_Md_288.get rfl rfl ?_
  refine g_top (w := nI n) (hn) ?_
  refine g_callVI [.int (nI n)] (by decide +kernel : decode prog_10_method_104_code 34 = .ok (.invokevirtual 321, 3)) lk_Md_321 (m_parts_4d σ (wl (upd (upd B r (nI 31)) (r + 1) (nI 13)) (r + 1 + 1) (lC 4)) (r + 1 + 1 + 8) (nI n) hk hn ha (by omega) hn7 ha9 hna) rfl rfl rfl rfl (Nat.le_of_ble_eq_true rfl) (Nat.le_of_ble_eq_true rfl) (fun r34 s34 h34 => ?_)
  obtain ⟨rfl, rfl⟩ := h34
  refine g_isub (by decide +kernel : decode prog_10_method_104_code 37 = .ok (.isub, 1)) ?_
  exact g_iret hR (by decide +kernel : decode prog_10_method_104_code 38 = .ok (.ireturn, 1)) rfl ⟨_, rfl, ⟨rfl, rfl⟩⟩
set_option maxRecDepth 20000 in
theorem m_parts_5d (σ : Store) (B : Row) (r : Nat) (x : Int32) {n a : Nat} (hk : σ 0 23 = nI 5) (hn : σ 0 24 = nI n) (ha : σ 0 25 = nI a) (hr : r ≤ 13) (hn7 : n ≤ 7) (ha9 : a ≤ 9) (hna : n ≠ a) : Ct ΛM mt_Md_parts 4 [.ref 0, .int x] (aS σ B r 0) (PF (pV 5 n a x) (aS σ (wl B r (pC 5 n a)) (r + 3) 0)) := by
  refine Ct.of (by decide) (Nat.le_of_ble_eq_true rfl) (fun X hR => ?_)
  show G (ΛM, mt_Md_parts, 4) X (aS σ B r 0) [some (.ref 0), some (.int x), none] [] 0
  refine g_aload_n (by decide +kernel : decode prog_10_method_102_code 0 = .ok (.aload_n 0, 1)) rfl ?_
  refine g_getI (by decide +kernel : decode prog_10_method_102_code 1 = .ok (.getfield 294, 3)) fl_Md_294.get rfl rfl ?_
  refine g_top (w := nI 5) (hk) ?_
  refine g_iconst (v := nI 3) (by decide +kernel : decode prog_10_method_102_code 4 = .ok (.iconst 3, 1)) (by decide) ?_
  refine g_icmp_neN (tgt := 27) (by decide +kernel : decode prog_10_method_102_code 5 = .ok (.if_icmp .ne 22, 3)) (by decide) (by decide) (by decide) (fun _ => ?_) (fun h => False.elim (by revert h; decide))
  refine g_aload_n (by decide +kernel : decode prog_10_method_102_code 27 = .ok (.aload_n 0, 1)) rfl ?_
  refine g_getI (by decide +kernel : decode prog_10_method_102_code 28 = .ok (.getfield 294, 3)) fl_Md_294.get rfl rfl ?_
  refine g_top (w := nI 5) (hk) ?_
  refine g_iconst (v := nI 5) (by decide +kernel : decode prog_10_method_102_code 31 = .ok (.iconst 5, 1)) (by decide) ?_
  refine g_icmp_neN (tgt := 69) (by decide +kernel : decode prog_10_method_102_code 32 = .ok (.if_icmp .ne 37, 3)) (by decide) (by decide) (by decide) (fun h => False.elim (by revert h; decide)) (fun _ => ?_)
  refine g_aload_n (by decide +kernel : decode prog_10_method_102_code 35 = .ok (.aload_n 0, 1)) rfl ?_
  refine g_bipush (v := nI 61) (by decide +kernel : decode prog_10_method_102_code 36 = .ok (.bipush 61, 2)) (by decide) ?_
  refine g_callVV [.int (nI 61)] (by decide +kernel : decode prog_10_method_102_code 38 = .ok (.invokevirtual 285, 3)) lk_Md_285 (m_runs σ B r 0 (nI 61) (by omega)) rfl rfl rfl rfl (Nat.le_of_ble_eq_true rfl) (Nat.le_of_ble_eq_true rfl) (fun s38 h38 => ?_)
  obtain rfl := h38
  refine g_aload_n (by decide +kernel : decode prog_10_method_102_code 41 = .ok (.aload_n 0, 1)) rfl ?_
  refine g_iload_n (by decide +kernel : decode prog_10_method_102_code 42 = .ok (.iload_n 1, 1)) rfl ?_
  refine g_callVI [.int x] (by decide +kernel : decode prog_10_method_102_code 43 = .ok (.invokevirtual 312, 3)) lk_Md_312 (m_partsPlain_d σ (upd B r (nI 61)) (r + 1) x hn ha (by omega) hn7 ha9 hna) rfl rfl rfl rfl (Nat.le_of_ble_eq_true rfl) (Nat.le_of_ble_eq_true rfl) (fun r43 s43 h43 => ?_)
  obtain ⟨rfl, rfl⟩ := h43
  refine g_istore_n (L' := [some (.ref 0), some (.int x), some (.int (pP n a x))]) (by decide +kernel : decode prog_10_method_102_code 46 = .ok (.istore_n 2, 1)) (Nat.le_of_ble_eq_true rfl) rfl ?_
  refine g_aload_n (by decide +kernel : decode prog_10_method_102_code 47 = .ok (.aload_n 0, 1)) rfl ?_
  refine g_getI (by decide +kernel : decode prog_10_method_102_code 48 = .ok (.getfield 309, 3)) fl_Md_309.get rfl rfl ?_
  refine g_top (w := nI 0) (rfl) ?_
  refine g_if_eqN (tgt := 58) (by decide +kernel : decode prog_10_method_102_code 51 = .ok (.ifCond .eq 7, 3)) (by decide) (by decide) (fun _ => ?_) (fun h => False.elim (by revert h; decide))
  refine g_iload_n (by decide +kernel : decode prog_10_method_102_code 58 = .ok (.iload_n 2, 1)) rfl ?_
  refine g_aload_n (by decide +kernel : decode prog_10_method_102_code 59 = .ok (.aload_n 0, 1)) rfl ?_
  refine g_aload_n (by decide +kernel : decode prog_10_method_102_code 60 = .ok (.aload_n 0, 1)) rfl ?_
  refine g_getI (by decide +kernel : decode prog_10_method_102_code 61 = .ok (.getfield 288, 3)) fl_Md_288.get rfl rfl ?_
  refine g_top (w := nI n) (hn) ?_
  refine g_callVI [.int (nI n)] (by decide +kernel : decode prog_10_method_102_code 64 = .ok (.invokevirtual 300, 3)) lk_Md_300 (m_counts_5 σ (upd (upd B r (nI 61)) (r + 1) (nI 12)) (r + 1 + 1) (nI n) hk hn ha (by omega)) rfl rfl rfl rfl (Nat.le_of_ble_eq_true rfl) (Nat.le_of_ble_eq_true rfl) (fun r64 s64 h64 => ?_)
  obtain ⟨rfl, rfl⟩ := h64
  refine g_ixor (by decide +kernel : decode prog_10_method_102_code 67 = .ok (.ixor, 1)) ?_
  exact g_iret hR (by decide +kernel : decode prog_10_method_102_code 68 = .ok (.ireturn, 1)) rfl ⟨_, rfl, ⟨by show _ = (if n = a then nI 0 else pP n a x ^^^ cV 5 n (nI n)); rw [if_neg hna], by show _ = aS σ (wl B r (nI 61 :: nI 12 :: (if n = a then [] else cC 5))) _ _; rw [if_neg hna]; rfl⟩⟩
set_option maxRecDepth 20000 in
theorem m_looks_5d (σ : Store) (B : Row) (r : Nat) (x : Int32) {n a : Nat} (hk : σ 0 23 = nI 5) (hn : σ 0 24 = nI n) (ha : σ 0 25 = nI a) (hr : r ≤ 5) (hn7 : n ≤ 7) (ha9 : a ≤ 9) (hna : n ≠ a) : Ct ΛM mt_Md_looks 7 [.ref 0, .int x] (aS σ B r 0) (PF (kV 5 n a x) (aS σ (wl B r (kC 5 n a)) (r + 4) 0)) := by
  refine Ct.of (by decide) (Nat.le_of_ble_eq_true rfl) (fun X hR => ?_)
  show G (ΛM, mt_Md_looks, 7) X (aS σ B r 0) [some (.ref 0), some (.int x), none] [] 0
  refine g_aload_n (by decide +kernel : decode prog_10_method_104_code 0 = .ok (.aload_n 0, 1)) rfl ?_
  refine g_getI (by decide +kernel : decode prog_10_method_104_code 1 = .ok (.getfield 294, 3)) fl_Md_294.get rfl rfl ?_
  refine g_top (w := nI 5) (hk) ?_
  refine g_iconst (v := nI 2) (by decide +kernel : decode prog_10_method_104_code 4 = .ok (.iconst 2, 1)) (by decide) ?_
  refine g_icmp_eqN (tgt := 16) (by decide +kernel : decode prog_10_method_104_code 5 = .ok (.if_icmp .eq 11, 3)) (by decide) (by decide) (by decide) (fun h => False.elim (by revert h; decide)) (fun _ => ?_)
  refine g_aload_n (by decide +kernel : decode prog_10_method_104_code 8 = .ok (.aload_n 0, 1)) rfl ?_
  refine g_getI (by decide +kernel : decode prog_10_method_104_code 9 = .ok (.getfield 294, 3)) fl_Md_294.get rfl rfl ?_
  refine g_top (w := nI 5) (hk) ?_
  refine g_iconst (v := nI 4) (by decide +kernel : decode prog_10_method_104_code 12 = .ok (.iconst 4, 1)) (by decide) ?_
  refine g_icmp_neN (tgt := 39) (by decide +kernel : decode prog_10_method_104_code 13 = .ok (.if_icmp .ne 26, 3)) (by decide) (by decide) (by decide) (fun _ => ?_) (fun h => False.elim (by revert h; decide))
  refine g_aload_n (by decide +kernel : decode prog_10_method_104_code 39 = .ok (.aload_n 0, 1)) rfl ?_
  refine g_getI (by decide +kernel : decode prog_10_method_104_code 40 = .ok (.getfield 294, 3)) fl_Md_294.get rfl rfl ?_
  refine g_top (w := nI 5) (hk) ?_
  refine g_iconst (v := nI 5) (by decide +kernel : decode prog_10_method_104_code 43 = .ok (.iconst 5, 1)) (by decide) ?_
  refine g_icmp_neN (tgt := 61) (by decide +kernel : decode prog_10_method_104_code 44 = .ok (.if_icmp .ne 17, 3)) (by decide) (by decide) (by decide) (fun h => False.elim (by revert h; decide)) (fun _ => ?_)
  refine g_aload_n (by decide +kernel : decode prog_10_method_104_code 47 = .ok (.aload_n 0, 1)) rfl ?_
  refine g_bipush (v := nI 60) (by decide +kernel : decode prog_10_method_104_code 48 = .ok (.bipush 60, 2)) (by decide) ?_
  refine g_callVV [.int (nI 60)] (by decide +kernel : decode prog_10_method_104_code 50 = .ok (.invokevirtual 285, 3)) lk_Md_285 (m_runs σ B r 0 (nI 60) (by omega)) rfl rfl rfl rfl (Nat.le_of_ble_eq_true rfl) (Nat.le_of_ble_eq_true rfl) (fun s50 h50 => ?_)
  obtain rfl := h50
  refine g_aload_n (by decide +kernel : decode prog_10_method_104_code 53 = .ok (.aload_n 0, 1)) rfl ?_
  refine g_iload_n (by decide +kernel : decode prog_10_method_104_code 54 = .ok (.iload_n 1, 1)) rfl ?_
  refine g_callVI [.int x] (by decide +kernel : decode prog_10_method_104_code 55 = .ok (.invokevirtual 318, 3)) lk_Md_318 (m_looksPlain_5 σ (upd B r (nI 60)) (r + 1) x hk hn ha (by omega)) rfl rfl rfl rfl (Nat.le_of_ble_eq_true rfl) (Nat.le_of_ble_eq_true rfl) (fun r55 s55 h55 => ?_)
  obtain ⟨rfl, rfl⟩ := h55
  refine g_iconst (v := nI 3) (by decide +kernel : decode prog_10_method_104_code 58 = .ok (.iconst 3, 1)) (by decide) ?_
  refine g_imul (by decide +kernel : decode prog_10_method_104_code 59 = .ok (.imul, 1)) ?_
  exact g_iret hR (by decide +kernel : decode prog_10_method_104_code 60 = .ok (.ireturn, 1)) rfl ⟨_, rfl, ⟨rfl, rfl⟩⟩
