/-! THE REFERENCE: where one had best hide, as what, with how much wit, who is needed, by how few -/
theorem s_row_row (σ : Store) (k : Nat) (f g : Row) : s_row (s_row σ k f) k g = s_row σ k g := by
  funext a
  unfold s_row
  split <;> rfl
theorem s_row_self (σ : Store) (k : Nat) : s_row σ k (σ k) = σ := by
  funext a
  unfold s_row
  split
  · rename_i h; rw [h]
  · rfl
theorem upd_rest {f : Row} {i j : Nat} {a v : Int32} (h : i ≠ j) : upd (upd (upd (upd f i a) j v) j (f j)) i (f i) = f := by
  funext c
  unfold upd
  by_cases h1 : c = i
  · subst h1; simp
  · by_cases h2 : c = j
    · subst h2; simp [h1]
    · simp [h1, h2]
/-- the first greatest of some numbers: which, how great -/
def bl (i : Int32 × Int32) (g : Nat → Nat) : Nat → Int32 × Int32
  | 0 => i
  | k + 1 => if (bl i g k).2 < nI (g k) then (nI k, nI (g k)) else bl i g k
theorem bl_1 (i : Int32 × Int32) (g : Nat → Nat) (k : Nat) : (bl i g (k + 1)).1 = if (bl i g k).2 < nI (g k) then nI k else (bl i g k).1 := by
  show (if _ then _ else _ : Int32 × Int32).1 = _
  split <;> rfl
theorem bl_2 (i : Int32 × Int32) (g : Nat → Nat) (k : Nat) : (bl i g (k + 1)).2 = if (bl i g k).2 < nI (g k) then nI (g k) else (bl i g k).2 := by
  show (if _ then _ else _ : Int32 × Int32).2 = _
  split <;> rfl
def safeV (f : Row) (x : Int32) : Int32 := match pz f x with
  | none => -1
  | some o => (bl (nI 0, -1) (fun p => shw 255 o 61 (upd (upd f (19 + 6 * o + 4) (nI 1)) (19 + 6 * o + 3) (nI p))) 12).1
def kindV (f : Row) (x : Int32) : Int32 := match pz f x with
  | none => -1
  | some o => (bl (nI 0, -1) (fun p => shw 255 o 61 (upd f (19 + 6 * o + 0) (nI p))) 6).1
def needV (f : Row) (x : Int32) : Int32 := match pz f x with
  | none => -1
  | some o => (bl (-3, nI (shw 255 o 61 f)) (fun q => shw (255 - 2 ^ q) o 61 f) (nn f)).1
def wfF (f : Row) (o n : Nat) : Nat → Nat → Int32
  | 0, _ => -3
  | k + 1, v => if yN 255 (upd f (19 + 6 * o + 2) (nI v)) n (19 + 6 * o + 4) = nI 1 then nI v else wfF f o n k (v + 1)
def witV (f : Row) (x y : Int32) : Int32 := match pz f x with
  | none => -1
  | some o => match rg 1 20 y with
    | none => -1
    | some n => wfF f o n 10 0
/-- the least set of fewest finders among those below k -/
def few (f : Row) (o n : Nat) : Nat → Option Nat
  | 0 => none
  | k + 1 => if yN k f n (19 + 6 * o + 4) = nI 1 then few f o n k else match few f o n k with
    | none => some k
    | some s => if popc k < popc s then some k else some s
def oN : Option Nat → Int32
  | none => -3
  | some s => nI s
def fewV (f : Row) (x y : Int32) : Int32 := match pz f x with
  | none => -1
  | some o => match rg 1 20 y with
    | none => -1
    | some n => oN (few f o n (2 ^ nn f))
theorem few_lt (f : Row) (o n : Nat) : ∀ k s, few f o n k = some s → s < k := by
  intro k
  induction k with
  | zero => intro s h; cases h
  | succ k ih =>
    intro s h
    unfold few at h
    split at h
    · have := ih s h; omega
    · split at h
      · cases h; omega
      · rename_i s' hs'
        have := ih s' hs'
        split at h <;> (cases h; omega)
theorem m_isShort (σ : Store) (x : Int32) : Ct ΛM mt_Md_isShort 1 [.int x] σ (PB σ (∃ j, 1 ≤ j ∧ j ≤ 20 ∧ x = nI j)) := by
  refine Ct.of (by decide) (Nat.le_of_ble_eq_true rfl) (fun X hR => ?_)
  show G (ΛM, mt_Md_isShort, 1) X σ [some (.int x)] [] 0
  refine g_iload_n (by decide +kernel : decode prog_10_method_68_code 0 = .ok (.iload_n 0, 1)) rfl ?_
  refine g_i2l (by decide +kernel : decode prog_10_method_68_code 1 = .ok (.i2l, 1)) ?_
  refine g_lconst (v := lN 1) (by decide +kernel : decode prog_10_method_68_code 2 = .ok (.lconst 1, 1)) (by decide) ?_
  refine g_ldc2 (v := lN 20) (by decide +kernel : decode prog_10_method_68_code 3 = .ok (.ldc2_w 231, 3)) kc_Md_231 ?_
  refine g_callSI [.long (Int32.toInt64 x), .long (lN 1), .long (lN 20)] (by decide +kernel : decode prog_10_method_68_code 6 = .ok (.invokestatic 57, 3)) lk_Md_57 (m_isInN ΛM σ x 1 20) rfl rfl (Nat.le_of_ble_eq_true rfl) (Nat.le_of_ble_eq_true rfl) (fun r6 s6 h6 => ?_)
  obtain ⟨rfl, h6⟩ := h6
  exact g_zret hR (by decide +kernel : decode prog_10_method_68_code 9 = .ok (.ireturn, 1)) rfl (by rcases h6 with ⟨h, _⟩ | ⟨h, _⟩ <;> rw [h] <;> decide) ⟨_, rfl, ⟨rfl, h6⟩⟩
set_option maxRecDepth 20000 in
theorem m_hb_lp {X : CX} {σ : Store} {f b : Row} (hI : Inv f) {o : Nat} (ho : o < nn f) {n m : Nat} (hn : n < 2 ^ 31) (hm : m < 256) : ∀ (b9 k : Nat), k ≤ n → n - k < b9 → Rt (ΛM, mt_Md_isHiddenBy, 4) (PI (fun r σ' => σ' = mS (s_row σ 3 f) f (yB m f b n) ∧ ((r = nI 1 ∧ yN m f n (19 + 6 * o + 4) = nI 1) ∨ (r = nI 0 ∧ ¬ yN m f n (19 + 6 * o + 4) = nI 1)))) X → G (ΛM, mt_Md_isHiddenBy, 4) X (mS (s_row σ 3 f) (yN m f k) (yB m f b k)) [some (.ref 0), some (.int (nI o)), some (.int (nI n)), some (.int (nI m)), some (.int (nI k))] [] 14 := by
  have hn8 := hI.n.2
  intro b9
  induction b9 with
  | zero => intro k hk hb hR; omega
  | succ b9 ih =>
  intro k hk hb hR
  refine g_iload (by decide +kernel : decode prog_10_method_69_code 14 = .ok (.iload 4, 2)) rfl ?_
  refine g_iload_n (by decide +kernel : decode prog_10_method_69_code 16 = .ok (.iload_n 2, 1)) rfl ?_
  refine g_icmp_geN (tgt := 31) (by decide +kernel : decode prog_10_method_69_code 17 = .ok (.if_icmp .ge 14, 3)) (by decide) (by omega) (by omega) (fun h17 => ?_) (fun h17 => ?_)
  · have hkn : k = n := by omega
    refine g_aload_n (by decide +kernel : decode prog_10_method_69_code 31 = .ok (.aload_n 0, 1)) rfl ?_
    refine g_iload_n (by decide +kernel : decode prog_10_method_69_code 32 = .ok (.iload_n 1, 1)) rfl ?_
    refine g_iconst (v := nI 4) (by decide +kernel : decode prog_10_method_69_code 33 = .ok (.iconst 4, 1)) (by decide) ?_
    refine g_callVI [.int (nI o), .int (nI 4)] (by decide +kernel : decode prog_10_method_69_code 34 = .ok (.invokevirtual 169, 3)) lk_Md_169 (m_its (mS (s_row σ 3 f) (yN m f k) (yB m f b k)) o 4 (v := (yN m f k) (19 + 6 * o + 4)) rfl (by omega)) rfl rfl rfl rfl (Nat.le_of_ble_eq_true rfl) (Nat.le_of_ble_eq_true rfl) (fun r34 s34 h34 => ?_)
    obtain ⟨rfl, rfl⟩ := h34
    refine g_iconst (v := nI 1) (by decide +kernel : decode prog_10_method_69_code 37 = .ok (.iconst 1, 1)) (by decide) ?_
    refine g_icmp_ne (tgt := 45) (by decide +kernel : decode prog_10_method_69_code 38 = .ok (.if_icmp .ne 7, 3)) (by decide) (fun h38 => ?_) (fun h38 => ?_)
    · refine g_iconst (v := nI 0) (by decide +kernel : decode prog_10_method_69_code 45 = .ok (.iconst 0, 1)) (by decide) ?_
      refine g_istore (L' := [some (.ref 0), some (.int (nI o)), some (.int (nI n)), some (.int (nI m)), some (.int (nI 0))]) (by decide +kernel : decode prog_10_method_69_code 46 = .ok (.istore 4, 2)) (Nat.le_of_ble_eq_true rfl) rfl ?_
      refine g_aload_n (by decide +kernel : decode prog_10_method_69_code 48 = .ok (.aload_n 0, 1)) rfl ?_
      refine g_getR (by decide +kernel : decode prog_10_method_69_code 49 = .ok (.getfield 16, 3)) fl_Md_16 rfl rfl ?_
      refine g_aload_n (by decide +kernel : decode prog_10_method_69_code 52 = .ok (.aload_n 0, 1)) rfl ?_
      refine g_getR (by decide +kernel : decode prog_10_method_69_code 53 = .ok (.getfield 7, 3)) fl_Md_7 rfl rfl ?_
      refine g_callSV [.ref 3, .ref 1] (by decide +kernel : decode prog_10_method_69_code 56 = .ok (.invokestatic 141, 3)) lk_Md_141 (m_back σ f (yN m f k) (yB m f b k)) rfl rfl (Nat.le_of_ble_eq_true rfl) (Nat.le_of_ble_eq_true rfl) (fun s56 h56 => ?_)
      obtain rfl := h56
      refine g_iload (by decide +kernel : decode prog_10_method_69_code 59 = .ok (.iload 4, 2)) rfl ?_
      exact g_zret hR (by decide +kernel : decode prog_10_method_69_code 61 = .ok (.ireturn, 1)) rfl (by decide) ⟨_, rfl, ⟨by rw [hkn], Or.inr ⟨rfl, hkn ▸ h38⟩⟩⟩
    · refine g_iconst (v := nI 1) (by decide +kernel : decode prog_10_method_69_code 41 = .ok (.iconst 1, 1)) (by decide) ?_
      refine g_goto (tgt := 46) (by decide +kernel : decode prog_10_method_69_code 42 = .ok (.goto 4, 3)) (by decide) ?_
      refine g_istore (L' := [some (.ref 0), some (.int (nI o)), some (.int (nI n)), some (.int (nI m)), some (.int (nI 1))]) (by decide +kernel : decode prog_10_method_69_code 46 = .ok (.istore 4, 2)) (Nat.le_of_ble_eq_true rfl) rfl ?_
      refine g_aload_n (by decide +kernel : decode prog_10_method_69_code 48 = .ok (.aload_n 0, 1)) rfl ?_
      refine g_getR (by decide +kernel : decode prog_10_method_69_code 49 = .ok (.getfield 16, 3)) fl_Md_16 rfl rfl ?_
      refine g_aload_n (by decide +kernel : decode prog_10_method_69_code 52 = .ok (.aload_n 0, 1)) rfl ?_
      refine g_getR (by decide +kernel : decode prog_10_method_69_code 53 = .ok (.getfield 7, 3)) fl_Md_7 rfl rfl ?_
      refine g_callSV [.ref 3, .ref 1] (by decide +kernel : decode prog_10_method_69_code 56 = .ok (.invokestatic 141, 3)) lk_Md_141 (m_back σ f (yN m f k) (yB m f b k)) rfl rfl (Nat.le_of_ble_eq_true rfl) (Nat.le_of_ble_eq_true rfl) (fun s56 h56 => ?_)
      obtain rfl := h56
      refine g_iload (by decide +kernel : decode prog_10_method_69_code 59 = .ok (.iload 4, 2)) rfl ?_
      exact g_zret hR (by decide +kernel : decode prog_10_method_69_code 61 = .ok (.ireturn, 1)) rfl (by decide) ⟨_, rfl, ⟨by rw [hkn], Or.inl ⟨rfl, hkn ▸ h38⟩⟩⟩
  · refine g_aload_n (by decide +kernel : decode prog_10_method_69_code 20 = .ok (.aload_n 0, 1)) rfl ?_
    refine g_iload_n (by decide +kernel : decode prog_10_method_69_code 21 = .ok (.iload_n 3, 1)) rfl ?_
    refine g_callVV [.int (nI m)] (by decide +kernel : decode prog_10_method_69_code 22 = .ok (.invokevirtual 202, 3)) lk_Md_202 ((m_goesBy (s_row σ 3 f) (yN m f k) (yB m f b k) (yN_inv hI k).1 m (by omega))) rfl rfl rfl rfl (Nat.le_of_ble_eq_true rfl) (Nat.le_of_ble_eq_true rfl) (fun s22 h22 => ?_)
    obtain rfl := h22
    refine g_sto (σ' := mS (s_row σ 3 f) (yN m f (k + 1)) (yB m f b (k + 1))) (by rw [yr_1]; rfl) ?_
    refine g_iincN (n := 1) (L' := [some (.ref 0), some (.int (nI o)), some (.int (nI n)), some (.int (nI m)), some (.int (nI (k + 1)))]) (by decide +kernel : decode prog_10_method_69_code 25 = .ok (.iinc 4 1, 3)) rfl (by decide) (Nat.le_of_ble_eq_true rfl) rfl ?_
    refine g_goto (tgt := 14) (by decide +kernel : decode prog_10_method_69_code 28 = .ok (.goto (-14), 3)) (by decide) ?_
    exact ih (k + 1) (by omega) (by omega) hR
set_option maxRecDepth 20000 in
theorem m_isHiddenBy (σ : Store) (f b : Row) (hI : Inv f) (o : Nat) (ho : o < nn f) (n m : Nat) (hn : n < 2 ^ 31) (hm : m < 256) : Ct ΛM mt_Md_isHiddenBy 4 [.ref 0, .int (nI o), .int (nI n), .int (nI m)] (mS σ f b) (PI (fun r σ' => σ' = mS (s_row σ 3 f) f (yB m f b n) ∧ ((r = nI 1 ∧ yN m f n (19 + 6 * o + 4) = nI 1) ∨ (r = nI 0 ∧ ¬ yN m f n (19 + 6 * o + 4) = nI 1)))) := by
  refine Ct.of (by decide) (Nat.le_of_ble_eq_true rfl) (fun X hR => ?_)
  show G (ΛM, mt_Md_isHiddenBy, 4) X (mS σ f b) [some (.ref 0), some (.int (nI o)), some (.int (nI n)), some (.int (nI m)), none] [] 0
  refine g_aload_n (by decide +kernel : decode prog_10_method_69_code 0 = .ok (.aload_n 0, 1)) rfl ?_
  refine g_getR (by decide +kernel : decode prog_10_method_69_code 1 = .ok (.getfield 7, 3)) fl_Md_7 rfl rfl ?_
  refine g_aload_n (by decide +kernel : decode prog_10_method_69_code 4 = .ok (.aload_n 0, 1)) rfl ?_
  refine g_getR (by decide +kernel : decode prog_10_method_69_code 5 = .ok (.getfield 16, 3)) fl_Md_16 rfl rfl ?_
  refine g_callSV [.ref 1, .ref 3] (by decide +kernel : decode prog_10_method_69_code 8 = .ok (.invokestatic 141, 3)) lk_Md_141 (m_aside σ f b) rfl rfl (Nat.le_of_ble_eq_true rfl) (Nat.le_of_ble_eq_true rfl) (fun s8 h8 => ?_)
  obtain rfl := h8
  refine g_iconst (v := nI 0) (by decide +kernel : decode prog_10_method_69_code 11 = .ok (.iconst 0, 1)) (by decide) ?_
  refine g_istore (L' := [some (.ref 0), some (.int (nI o)), some (.int (nI n)), some (.int (nI m)), some (.int (nI 0))]) (by decide +kernel : decode prog_10_method_69_code 12 = .ok (.istore 4, 2)) (Nat.le_of_ble_eq_true rfl) rfl ?_
  exact m_hb_lp hI ho hn hm (n + 1) 0 (Nat.zero_le _) (by omega) hR
set_option maxRecDepth 20000 in
theorem p_safe_lp {X : CX} {σ : Store} {f : Row} (hI : Inv f) {o : Nat} (ho : o < nn f) : ∀ (b9 k : Nat), k ≤ 12 → 12 - k < b9 → ∀ (v : Int32), Rng v 11 → ∀ (a b : Row), Rt (ΛM, mt_Md_safeFor, 5) (mP σ (bl (nI 0, -1) (fun p => shw 255 o 61 (upd (upd f (19 + 6 * o + 4) (nI 1)) (19 + 6 * o + 3) (nI p))) 12).1 f) X → G (ΛM, mt_Md_safeFor, 5) X (mS (s_row σ 3 a) (upd (upd f (19 + 6 * o + 4) (nI 1)) (19 + 6 * o + 3) v) b) [some (.ref 0), some (.int (nI o)), some (.int (nI (19 + 6 * o))), some (.int (f (19 + 6 * o + 3))), some (.int (f (19 + 6 * o + 4))), some (.int ((bl (nI 0, -1) (fun p => shw 255 o 61 (upd (upd f (19 + 6 * o + 4) (nI 1)) (19 + 6 * o + 3) (nI p))) k).1)), some (.int ((bl (nI 0, -1) (fun p => shw 255 o 61 (upd (upd f (19 + 6 * o + 4) (nI 1)) (19 + 6 * o + 3) (nI p))) k).2)), some (.int (nI k)), none] [] 46 := by
  have hn8 := hI.n.2
  intro b9
  induction b9 with
  | zero => intro k hk hb v hv a b hR; omega
  | succ b9 ih =>
  intro k hk hb v hv a b hR
  have hI3 : ∀ k, k < 12 → Inv (upd (upd f (19 + 6 * o + 4) (nI 1)) (19 + 6 * o + 3) (nI k)) := fun k hk => (hI.up (by decide) (Rng.of (by decide))).up (by decide) (Rng.of (by show k ≤ 11; omega))
  refine g_iload (by decide +kernel : decode prog_10_method_66_code 46 = .ok (.iload 7, 2)) rfl ?_
  refine g_bipush (v := nI 12) (by decide +kernel : decode prog_10_method_66_code 48 = .ok (.bipush 12, 2)) (by decide) ?_
  refine g_icmp_geN (tgt := 111) (by decide +kernel : decode prog_10_method_66_code 50 = .ok (.if_icmp .ge 61, 3)) (by decide) (by omega) (by decide) (fun h50 => ?_) (fun h50 => ?_)
  · refine g_aload_n (by decide +kernel : decode prog_10_method_66_code 111 = .ok (.aload_n 0, 1)) rfl ?_
    refine g_getR (by decide +kernel : decode prog_10_method_66_code 112 = .ok (.getfield 7, 3)) fl_Md_7 rfl rfl ?_
    refine g_iload_n (by decide +kernel : decode prog_10_method_66_code 115 = .ok (.iload_n 2, 1)) rfl ?_
    refine g_iconst (v := nI 3) (by decide +kernel : decode prog_10_method_66_code 116 = .ok (.iconst 3, 1)) (by decide) ?_
    refine g_iaddN (by decide +kernel : decode prog_10_method_66_code 117 = .ok (.iadd, 1)) ?_
    refine g_iload_n (by decide +kernel : decode prog_10_method_66_code 118 = .ok (.iload_n 3, 1)) rfl ?_
    refine g_iastore (a := 19 + 6 * o + 3) (by decide +kernel : decode prog_10_method_66_code 119 = .ok (.iastore, 1)) rfl rfl (by omega) (by decide) ?_
    refine g_sto (mS_u1 _ _ _ _ _) ?_
    refine g_aload_n (by decide +kernel : decode prog_10_method_66_code 120 = .ok (.aload_n 0, 1)) rfl ?_
    refine g_getR (by decide +kernel : decode prog_10_method_66_code 121 = .ok (.getfield 7, 3)) fl_Md_7 rfl rfl ?_
    refine g_iload_n (by decide +kernel : decode prog_10_method_66_code 124 = .ok (.iload_n 2, 1)) rfl ?_
    refine g_iconst (v := nI 4) (by decide +kernel : decode prog_10_method_66_code 125 = .ok (.iconst 4, 1)) (by decide) ?_
    refine g_iaddN (by decide +kernel : decode prog_10_method_66_code 126 = .ok (.iadd, 1)) ?_
    refine g_iload (by decide +kernel : decode prog_10_method_66_code 127 = .ok (.iload 4, 2)) rfl ?_
    refine g_iastore (a := 19 + 6 * o + 4) (by decide +kernel : decode prog_10_method_66_code 129 = .ok (.iastore, 1)) rfl rfl (by omega) (by decide) ?_
    refine g_sto (mS_u1 _ _ _ _ _) ?_
    refine g_sto (σ' := mS (s_row σ 3 a) f b) (by rw [upd_rest (by omega)]) ?_
    refine g_iload (by decide +kernel : decode prog_10_method_66_code 130 = .ok (.iload 5, 2)) rfl ?_
    exact g_iret hR (by decide +kernel : decode prog_10_method_66_code 132 = .ok (.ireturn, 1)) rfl ⟨_, rfl, ⟨by rw [show k = 12 by omega], ⟨_, _, rfl⟩⟩⟩
  · refine g_aload_n (by decide +kernel : decode prog_10_method_66_code 53 = .ok (.aload_n 0, 1)) rfl ?_
    refine g_getR (by decide +kernel : decode prog_10_method_66_code 54 = .ok (.getfield 7, 3)) fl_Md_7 rfl rfl ?_
    refine g_iload_n (by decide +kernel : decode prog_10_method_66_code 57 = .ok (.iload_n 2, 1)) rfl ?_
    refine g_iconst (v := nI 3) (by decide +kernel : decode prog_10_method_66_code 58 = .ok (.iconst 3, 1)) (by decide) ?_
    refine g_iaddN (by decide +kernel : decode prog_10_method_66_code 59 = .ok (.iadd, 1)) ?_
    refine g_iload (by decide +kernel : decode prog_10_method_66_code 60 = .ok (.iload 7, 2)) rfl ?_
    refine g_iastore (a := 19 + 6 * o + 3) (by decide +kernel : decode prog_10_method_66_code 62 = .ok (.iastore, 1)) rfl rfl (by omega) (by decide) ?_
    refine g_sto (mS_u1 _ _ _ _ _) ?_
    refine g_sto (σ' := mS (s_row σ 3 a) (upd (upd f (19 + 6 * o + 4) (nI 1)) (19 + 6 * o + 3) (nI k)) b) (by rw [upd_upd]) ?_
    refine g_aload_n (by decide +kernel : decode prog_10_method_66_code 63 = .ok (.aload_n 0, 1)) rfl ?_
    refine g_iload_n (by decide +kernel : decode prog_10_method_66_code 64 = .ok (.iload_n 1, 1)) rfl ?_
    refine g_sipush (v := nI 255) (by decide +kernel : decode prog_10_method_66_code 65 = .ok (.sipush 255, 3)) (by decide) ?_
    refine g_callVI [.int (nI o), .int (nI 255)] (by decide +kernel : decode prog_10_method_66_code 68 = .ok (.invokevirtual 228, 3)) lk_Md_228 (m_shownBy (s_row σ 3 a) (upd (upd f (19 + 6 * o + 4) (nI 1)) (19 + 6 * o + 3) (nI k)) b (hI3 k (by omega)) o (by rw [nn_up (by omega), nn_up (by omega)]; exact ho) 255 (by omega)) rfl rfl rfl rfl (Nat.le_of_ble_eq_true rfl) (Nat.le_of_ble_eq_true rfl) (fun r68 s68 h68 => ?_)
    obtain ⟨rfl, rfl⟩ := h68
    refine g_sto (σ' := mS (s_row σ 3 (upd (upd f (19 + 6 * o + 4) (nI 1)) (19 + 6 * o + 3) (nI k))) (upd (upd f (19 + 6 * o + 4) (nI 1)) (19 + 6 * o + 3) (nI k)) (yB 255 (upd (upd f (19 + 6 * o + 4) (nI 1)) (19 + 6 * o + 3) (nI k)) b (shw 255 o 61 (upd (upd f (19 + 6 * o + 4) (nI 1)) (19 + 6 * o + 3) (nI k))))) (by rw [s_row_row]) ?_
    refine g_istore (L' := [some (.ref 0), some (.int (nI o)), some (.int (nI (19 + 6 * o))), some (.int (f (19 + 6 * o + 3))), some (.int (f (19 + 6 * o + 4))), some (.int ((bl (nI 0, -1) (fun p => shw 255 o 61 (upd (upd f (19 + 6 * o + 4) (nI 1)) (19 + 6 * o + 3) (nI p))) k).1)), some (.int ((bl (nI 0, -1) (fun p => shw 255 o 61 (upd (upd f (19 + 6 * o + 4) (nI 1)) (19 + 6 * o + 3) (nI p))) k).2)), some (.int (nI k)), some (.int (nI (shw 255 o 61 (upd (upd f (19 + 6 * o + 4) (nI 1)) (19 + 6 * o + 3) (nI k)))))]) (by decide +kernel : decode prog_10_method_66_code 71 = .ok (.istore 8, 2)) (Nat.le_of_ble_eq_true rfl) rfl ?_
    refine g_iload (by decide +kernel : decode prog_10_method_66_code 73 = .ok (.iload 8, 2)) rfl ?_
    refine g_iload (by decide +kernel : decode prog_10_method_66_code 75 = .ok (.iload 6, 2)) rfl ?_
    have J77 : G (ΛM, mt_Md_safeFor, 5) X (mS (s_row σ 3 (upd (upd f (19 + 6 * o + 4) (nI 1)) (19 + 6 * o + 3) (nI k))) (upd (upd f (19 + 6 * o + 4) (nI 1)) (19 + 6 * o + 3) (nI k)) (yB 255 (upd (upd f (19 + 6 * o + 4) (nI 1)) (19 + 6 * o + 3) (nI k)) b (shw 255 o 61 (upd (upd f (19 + 6 * o + 4) (nI 1)) (19 + 6 * o + 3) (nI k))))) [some (.ref 0), some (.int (nI o)), some (.int (nI (19 + 6 * o))), some (.int (f (19 + 6 * o + 3))), some (.int (f (19 + 6 * o + 4))), some (.int ((bl (nI 0, -1) (fun p => shw 255 o 61 (upd (upd f (19 + 6 * o + 4) (nI 1)) (19 + 6 * o + 3) (nI p))) k).1)), some (.int ((bl (nI 0, -1) (fun p => shw 255 o 61 (upd (upd f (19 + 6 * o + 4) (nI 1)) (19 + 6 * o + 3) (nI p))) k).2)), some (.int (nI k)), some (.int (nI (shw 255 o 61 (upd (upd f (19 + 6 * o + 4) (nI 1)) (19 + 6 * o + 3) (nI k)))))] [.int ((bl (nI 0, -1) (fun p => shw 255 o 61 (upd (upd f (19 + 6 * o + 4) (nI 1)) (19 + 6 * o + 3) (nI p))) (k + 1)).1)] 87 := by
      refine g_istore (L' := [some (.ref 0), some (.int (nI o)), some (.int (nI (19 + 6 * o))), some (.int (f (19 + 6 * o + 3))), some (.int (f (19 + 6 * o + 4))), some (.int ((bl (nI 0, -1) (fun p => shw 255 o 61 (upd (upd f (19 + 6 * o + 4) (nI 1)) (19 + 6 * o + 3) (nI p))) (k + 1)).1)), some (.int ((bl (nI 0, -1) (fun p => shw 255 o 61 (upd (upd f (19 + 6 * o + 4) (nI 1)) (19 + 6 * o + 3) (nI p))) k).2)), some (.int (nI k)), some (.int (nI (shw 255 o 61 (upd (upd f (19 + 6 * o + 4) (nI 1)) (19 + 6 * o + 3) (nI k)))))]) (by decide +kernel : decode prog_10_method_66_code 87 = .ok (.istore 5, 2)) (Nat.le_of_ble_eq_true rfl) rfl ?_
      refine g_iload (by decide +kernel : decode prog_10_method_66_code 89 = .ok (.iload 8, 2)) rfl ?_
      refine g_iload (by decide +kernel : decode prog_10_method_66_code 91 = .ok (.iload 6, 2)) rfl ?_
      have J93 : G (ΛM, mt_Md_safeFor, 5) X (mS (s_row σ 3 (upd (upd f (19 + 6 * o + 4) (nI 1)) (19 + 6 * o + 3) (nI k))) (upd (upd f (19 + 6 * o + 4) (nI 1)) (19 + 6 * o + 3) (nI k)) (yB 255 (upd (upd f (19 + 6 * o + 4) (nI 1)) (19 + 6 * o + 3) (nI k)) b (shw 255 o 61 (upd (upd f (19 + 6 * o + 4) (nI 1)) (19 + 6 * o + 3) (nI k))))) [some (.ref 0), some (.int (nI o)), some (.int (nI (19 + 6 * o))), some (.int (f (19 + 6 * o + 3))), some (.int (f (19 + 6 * o + 4))), some (.int ((bl (nI 0, -1) (fun p => shw 255 o 61 (upd (upd f (19 + 6 * o + 4) (nI 1)) (19 + 6 * o + 3) (nI p))) (k + 1)).1)), some (.int ((bl (nI 0, -1) (fun p => shw 255 o 61 (upd (upd f (19 + 6 * o + 4) (nI 1)) (19 + 6 * o + 3) (nI p))) k).2)), some (.int (nI k)), some (.int (nI (shw 255 o 61 (upd (upd f (19 + 6 * o + 4) (nI 1)) (19 + 6 * o + 3) (nI k)))))] [.int ((bl (nI 0, -1) (fun p => shw 255 o 61 (upd (upd f (19 + 6 * o + 4) (nI 1)) (19 + 6 * o + 3) (nI p))) (k + 1)).2)] 103 := by
        refine g_istore (L' := [some (.ref 0), some (.int (nI o)), some (.int (nI (19 + 6 * o))), some (.int (f (19 + 6 * o + 3))), some (.int (f (19 + 6 * o + 4))), some (.int ((bl (nI 0, -1) (fun p => shw 255 o 61 (upd (upd f (19 + 6 * o + 4) (nI 1)) (19 + 6 * o + 3) (nI p))) (k + 1)).1)), some (.int ((bl (nI 0, -1) (fun p => shw 255 o 61 (upd (upd f (19 + 6 * o + 4) (nI 1)) (19 + 6 * o + 3) (nI p))) (k + 1)).2)), some (.int (nI k)), some (.int (nI (shw 255 o 61 (upd (upd f (19 + 6 * o + 4) (nI 1)) (19 + 6 * o + 3) (nI k)))))]) (by decide +kernel : decode prog_10_method_66_code 103 = .ok (.istore 6, 2)) (Nat.le_of_ble_eq_true rfl) rfl ?_
        refine g_iincN (n := 1) (L' := [some (.ref 0), some (.int (nI o)), some (.int (nI (19 + 6 * o))), some (.int (f (19 + 6 * o + 3))), some (.int (f (19 + 6 * o + 4))), some (.int ((bl (nI 0, -1) (fun p => shw 255 o 61 (upd (upd f (19 + 6 * o + 4) (nI 1)) (19 + 6 * o + 3) (nI p))) (k + 1)).1)), some (.int ((bl (nI 0, -1) (fun p => shw 255 o 61 (upd (upd f (19 + 6 * o + 4) (nI 1)) (19 + 6 * o + 3) (nI p))) (k + 1)).2)), some (.int (nI (k + 1))), some (.int (nI (shw 255 o 61 (upd (upd f (19 + 6 * o + 4) (nI 1)) (19 + 6 * o + 3) (nI k)))))]) (by decide +kernel : decode prog_10_method_66_code 105 = .ok (.iinc 7 1, 3)) rfl (by decide) (Nat.le_of_ble_eq_true rfl) rfl ?_
        refine g_goto (tgt := 46) (by decide +kernel : decode prog_10_method_66_code 108 = .ok (.goto (-62), 3)) (by decide) ?_
        refine g_sub (L' := [some (.ref 0), some (.int (nI o)), some (.int (nI (19 + 6 * o))), some (.int (f (19 + 6 * o + 3))), some (.int (f (19 + 6 * o + 4))), some (.int ((bl (nI 0, -1) (fun p => shw 255 o 61 (upd (upd f (19 + 6 * o + 4) (nI 1)) (19 + 6 * o + 3) (nI p))) (k + 1)).1)), some (.int ((bl (nI 0, -1) (fun p => shw 255 o 61 (upd (upd f (19 + 6 * o + 4) (nI 1)) (19 + 6 * o + 3) (nI p))) (k + 1)).2)), some (.int (nI (k + 1))), none]) ⟨rfl, rfl, rfl, rfl, rfl, rfl, rfl, rfl, trivial⟩ ?_
        exact ih (k + 1) (by omega) (by omega) _ (Rng.of (by show k ≤ 11; omega)) _ _ hR
      refine g_icmp_le (tgt := 101) (by decide +kernel : decode prog_10_method_66_code 93 = .ok (.if_icmp .le 8, 3)) (by decide) (fun h93 => ?_) (fun h93 => ?_)
      · refine g_iload (by decide +kernel : decode prog_10_method_66_code 101 = .ok (.iload 6, 2)) rfl ?_
        exact g_top (by rw [bl_2]; exact (if_neg (Int32.not_lt.mpr h93)).symm) J93
      · refine g_iload (by decide +kernel : decode prog_10_method_66_code 96 = .ok (.iload 8, 2)) rfl ?_
        refine g_goto (tgt := 103) (by decide +kernel : decode prog_10_method_66_code 98 = .ok (.goto 5, 3)) (by decide) ?_
        exact g_top (by rw [bl_2]; exact (if_pos (Int32.not_le.mp h93)).symm) J93
    refine g_icmp_le (tgt := 85) (by decide +kernel : decode prog_10_method_66_code 77 = .ok (.if_icmp .le 8, 3)) (by decide) (fun h77 => ?_) (fun h77 => ?_)
    · refine g_iload (by decide +kernel : decode prog_10_method_66_code 85 = .ok (.iload 5, 2)) rfl ?_
      exact g_top (by rw [bl_1]; exact (if_neg (Int32.not_lt.mpr h77)).symm) J77
    · refine g_iload (by decide +kernel : decode prog_10_method_66_code 80 = .ok (.iload 7, 2)) rfl ?_
      refine g_goto (tgt := 87) (by decide +kernel : decode prog_10_method_66_code 82 = .ok (.goto 5, 3)) (by decide) ?_
      exact g_top (by rw [bl_1]; exact (if_pos (Int32.not_le.mp h77)).symm) J77
set_option maxRecDepth 20000 in
theorem p_safeFor (σ : Store) (f b : Row) (hI : Inv f) (x : Int32) : Ct ΛM mt_Md_safeFor 5 [.ref 0, .int x] (mS σ f b) (mP σ (safeV f x) f) := by
  refine Ct.of (by decide) (Nat.le_of_ble_eq_true rfl) (fun X hR => ?_)
  show G (ΛM, mt_Md_safeFor, 5) X (mS σ f b) [some (.ref 0), some (.int x), none, none, none, none, none, none, none] [] 0
  have hn8 := hI.n.2
  refine g_aload_n (by decide +kernel : decode prog_10_method_66_code 0 = .ok (.aload_n 0, 1)) rfl ?_
  refine g_iload_n (by decide +kernel : decode prog_10_method_66_code 1 = .ok (.iload_n 1, 1)) rfl ?_
  refine g_callVI [.int x] (by decide +kernel : decode prog_10_method_66_code 2 = .ok (.invokevirtual 172, 3)) lk_Md_172 (m_isOne (mS σ f b) x hI.n.1 (by omega)) rfl rfl rfl rfl (Nat.le_of_ble_eq_true rfl) (Nat.le_of_ble_eq_true rfl) (fun r2 s2 h2 => ?_)
  rcases h2 with ⟨rfl, ⟨rfl, o, ho2, rfl⟩ | ⟨rfl, n2⟩⟩
  · refine g_if_neN (tgt := 10) (by decide +kernel : decode prog_10_method_66_code 5 = .ok (.ifCond .ne 5, 3)) (by decide) (by decide) (fun _ => ?_) (fun h => False.elim (by revert h; decide))
    refine g_bipush (v := nI 19) (by decide +kernel : decode prog_10_method_66_code 10 = .ok (.bipush 19, 2)) (by decide) ?_
    refine g_bipush (v := nI 6) (by decide +kernel : decode prog_10_method_66_code 12 = .ok (.bipush 6, 2)) (by decide) ?_
    refine g_iload_n (by decide +kernel : decode prog_10_method_66_code 14 = .ok (.iload_n 1, 1)) rfl ?_
    refine g_imulN (by decide +kernel : decode prog_10_method_66_code 15 = .ok (.imul, 1)) ?_
    refine g_iaddN (by decide +kernel : decode prog_10_method_66_code 16 = .ok (.iadd, 1)) ?_
    refine g_istore_n (L' := [some (.ref 0), some (.int (nI o)), some (.int (nI (19 + 6 * o))), none, none, none, none, none, none]) (by decide +kernel : decode prog_10_method_66_code 17 = .ok (.istore_n 2, 1)) (Nat.le_of_ble_eq_true rfl) rfl ?_
    refine g_aload_n (by decide +kernel : decode prog_10_method_66_code 18 = .ok (.aload_n 0, 1)) rfl ?_
    refine g_getR (by decide +kernel : decode prog_10_method_66_code 19 = .ok (.getfield 7, 3)) fl_Md_7 rfl rfl ?_
    refine g_iload_n (by decide +kernel : decode prog_10_method_66_code 22 = .ok (.iload_n 2, 1)) rfl ?_
    refine g_iconst (v := nI 3) (by decide +kernel : decode prog_10_method_66_code 23 = .ok (.iconst 3, 1)) (by decide) ?_
    refine g_iaddN (by decide +kernel : decode prog_10_method_66_code 24 = .ok (.iadd, 1)) ?_
    refine g_iaload (a := 19 + 6 * o + 3) (by decide +kernel : decode prog_10_method_66_code 25 = .ok (.iaload, 1)) rfl rfl (by omega) (by decide) ?_
    refine g_top (w := f (19 + 6 * o + 3)) (rfl) ?_
    refine g_istore_n (L' := [some (.ref 0), some (.int (nI o)), some (.int (nI (19 + 6 * o))), some (.int (f (19 + 6 * o + 3))), none, none, none, none, none]) (by decide +kernel : decode prog_10_method_66_code 26 = .ok (.istore_n 3, 1)) (Nat.le_of_ble_eq_true rfl) rfl ?_
    refine g_aload_n (by decide +kernel : decode prog_10_method_66_code 27 = .ok (.aload_n 0, 1)) rfl ?_
    refine g_iload_n (by decide +kernel : decode prog_10_method_66_code 28 = .ok (.iload_n 2, 1)) rfl ?_
    refine g_iconst (v := nI 4) (by decide +kernel : decode prog_10_method_66_code 29 = .ok (.iconst 4, 1)) (by decide) ?_
    refine g_iaddN (by decide +kernel : decode prog_10_method_66_code 30 = .ok (.iadd, 1)) ?_
    refine g_iconst (v := nI 1) (by decide +kernel : decode prog_10_method_66_code 31 = .ok (.iconst 1, 1)) (by decide) ?_
    refine g_callVI [.int (nI (19 + 6 * o + 4)), .int (nI 1)] (by decide +kernel : decode prog_10_method_66_code 32 = .ok (.invokevirtual 156, 3)) lk_Md_156 (m_becomes (mS σ f b) (19 + 6 * o + 4) (nI 1) (v := f (19 + 6 * o + 4)) rfl (by omega)) rfl rfl rfl rfl (Nat.le_of_ble_eq_true rfl) (Nat.le_of_ble_eq_true rfl) (fun r32 s32 h32 => ?_)
    obtain ⟨rfl, rfl⟩ := h32
    refine g_sto (mS_u1 _ _ _ _ _) ?_
    refine g_istore (L' := [some (.ref 0), some (.int (nI o)), some (.int (nI (19 + 6 * o))), some (.int (f (19 + 6 * o + 3))), some (.int (f (19 + 6 * o + 4))), none, none, none, none]) (by decide +kernel : decode prog_10_method_66_code 35 = .ok (.istore 4, 2)) (Nat.le_of_ble_eq_true rfl) rfl ?_
    refine g_iconst (v := nI 0) (by decide +kernel : decode prog_10_method_66_code 37 = .ok (.iconst 0, 1)) (by decide) ?_
    refine g_istore (L' := [some (.ref 0), some (.int (nI o)), some (.int (nI (19 + 6 * o))), some (.int (f (19 + 6 * o + 3))), some (.int (f (19 + 6 * o + 4))), some (.int (nI 0)), none, none, none]) (by decide +kernel : decode prog_10_method_66_code 38 = .ok (.istore 5, 2)) (Nat.le_of_ble_eq_true rfl) rfl ?_
    refine g_iconst (v := (-1)) (by decide +kernel : decode prog_10_method_66_code 40 = .ok (.iconst (-1), 1)) (by decide) ?_
    refine g_istore (L' := [some (.ref 0), some (.int (nI o)), some (.int (nI (19 + 6 * o))), some (.int (f (19 + 6 * o + 3))), some (.int (f (19 + 6 * o + 4))), some (.int (nI 0)), some (.int (-1)), none, none]) (by decide +kernel : decode prog_10_method_66_code 41 = .ok (.istore 6, 2)) (Nat.le_of_ble_eq_true rfl) rfl ?_
    refine g_iconst (v := nI 0) (by decide +kernel : decode prog_10_method_66_code 43 = .ok (.iconst 0, 1)) (by decide) ?_
    refine g_istore (L' := [some (.ref 0), some (.int (nI o)), some (.int (nI (19 + 6 * o))), some (.int (f (19 + 6 * o + 3))), some (.int (f (19 + 6 * o + 4))), some (.int (nI 0)), some (.int (-1)), some (.int (nI 0)), none]) (by decide +kernel : decode prog_10_method_66_code 44 = .ok (.istore 7, 2)) (Nat.le_of_ble_eq_true rfl) rfl ?_
    refine g_sto (σ' := mS (s_row σ 3 (σ 3)) (upd (upd f (19 + 6 * o + 4) (nI 1)) (19 + 6 * o + 3) ((upd f (19 + 6 * o + 4) (nI 1)) (19 + 6 * o + 3))) b) (by rw [s_row_self, upd_self]) ?_
    exact p_safe_lp hI ho2 13 0 (by omega) (by omega) _ (by rw [upd_n (by omega)]; exact hI.2.1 o ho2 3 (by decide)) _ _ (by simpa only [safeV, pz_of hI ho2] using hR)
  · refine g_if_neN (tgt := 10) (by decide +kernel : decode prog_10_method_66_code 5 = .ok (.ifCond .ne 5, 3)) (by decide) (by decide) (fun h => False.elim (by revert h; decide)) (fun _ => ?_)
    refine g_iconst (v := (-1)) (by decide +kernel : decode prog_10_method_66_code 8 = .ok (.iconst (-1), 1)) (by decide) ?_
    exact g_iret hR (by decide +kernel : decode prog_10_method_66_code 9 = .ok (.ireturn, 1)) rfl ⟨_, rfl, ⟨by simp only [safeV, pz_none hI n2], Jk.self _ _ _⟩⟩
set_option maxRecDepth 20000 in
theorem p_kind_lp {X : CX} {σ : Store} {f : Row} (hI : Inv f) {o : Nat} (ho : o < nn f) : ∀ (b9 k : Nat), k ≤ 6 → 6 - k < b9 → ∀ (v : Int32), Rng v 5 → ∀ (a b : Row), Rt (ΛM, mt_Md_kindFor, 5) (mP σ (bl (nI 0, -1) (fun p => shw 255 o 61 (upd f (19 + 6 * o + 0) (nI p))) 6).1 f) X → G (ΛM, mt_Md_kindFor, 5) X (mS (s_row σ 3 a) (upd f (19 + 6 * o + 0) v) b) [some (.ref 0), some (.int (nI o)), some (.int (nI (19 + 6 * o))), some (.int (f (19 + 6 * o))), some (.int ((bl (nI 0, -1) (fun p => shw 255 o 61 (upd f (19 + 6 * o + 0) (nI p))) k).1)), some (.int ((bl (nI 0, -1) (fun p => shw 255 o 61 (upd f (19 + 6 * o + 0) (nI p))) k).2)), some (.int (nI k)), none] [] 34 := by
  have hn8 := hI.n.2
  intro b9
  induction b9 with
  | zero => intro k hk hb v hv a b hR; omega
  | succ b9 ih =>
  intro k hk hb v hv a b hR
  refine g_iload (by decide +kernel : decode prog_10_method_67_code 34 = .ok (.iload 6, 2)) rfl ?_
  refine g_iconst (v := nI 5) (by decide +kernel : decode prog_10_method_67_code 36 = .ok (.iconst 5, 1)) (by decide) ?_
  refine g_icmp_gtN (tgt := 96) (by decide +kernel : decode prog_10_method_67_code 37 = .ok (.if_icmp .gt 59, 3)) (by decide) (by omega) (by decide) (fun h37 => ?_) (fun h37 => ?_)
  · refine g_aload_n (by decide +kernel : decode prog_10_method_67_code 96 = .ok (.aload_n 0, 1)) rfl ?_
    refine g_getR (by decide +kernel : decode prog_10_method_67_code 97 = .ok (.getfield 7, 3)) fl_Md_7 rfl rfl ?_
    refine g_iload_n (by decide +kernel : decode prog_10_method_67_code 100 = .ok (.iload_n 2, 1)) rfl ?_
    refine g_iload_n (by decide +kernel : decode prog_10_method_67_code 101 = .ok (.iload_n 3, 1)) rfl ?_
    refine g_iastore (a := 19 + 6 * o) (by decide +kernel : decode prog_10_method_67_code 102 = .ok (.iastore, 1)) rfl rfl (by omega) (by decide) ?_
    refine g_sto (mS_u1 _ _ _ _ _) ?_
    refine g_sto (σ' := mS (s_row σ 3 a) f b) (by rw [Nat.add_zero, upd_upd, upd_self]) ?_
    refine g_iload (by decide +kernel : decode prog_10_method_67_code 103 = .ok (.iload 4, 2)) rfl ?_
    exact g_iret hR (by decide +kernel : decode prog_10_method_67_code 105 = .ok (.ireturn, 1)) rfl ⟨_, rfl, ⟨by rw [show k = 6 by omega], ⟨_, _, rfl⟩⟩⟩
  · refine g_aload_n (by decide +kernel : decode prog_10_method_67_code 40 = .ok (.aload_n 0, 1)) rfl ?_
    refine g_getR (by decide +kernel : decode prog_10_method_67_code 41 = .ok (.getfield 7, 3)) fl_Md_7 rfl rfl ?_
    refine g_iload_n (by decide +kernel : decode prog_10_method_67_code 44 = .ok (.iload_n 2, 1)) rfl ?_
    refine g_iload (by decide +kernel : decode prog_10_method_67_code 45 = .ok (.iload 6, 2)) rfl ?_
    refine g_iastore (a := 19 + 6 * o) (by decide +kernel : decode prog_10_method_67_code 47 = .ok (.iastore, 1)) rfl rfl (by omega) (by decide) ?_
    refine g_sto (mS_u1 _ _ _ _ _) ?_
    refine g_sto (σ' := mS (s_row σ 3 a) (upd f (19 + 6 * o + 0) (nI k)) b) (by rw [Nat.add_zero, upd_upd]) ?_
    refine g_aload_n (by decide +kernel : decode prog_10_method_67_code 48 = .ok (.aload_n 0, 1)) rfl ?_
    refine g_iload_n (by decide +kernel : decode prog_10_method_67_code 49 = .ok (.iload_n 1, 1)) rfl ?_
    refine g_sipush (v := nI 255) (by decide +kernel : decode prog_10_method_67_code 50 = .ok (.sipush 255, 3)) (by decide) ?_
    refine g_callVI [.int (nI o), .int (nI 255)] (by decide +kernel : decode prog_10_method_67_code 53 = .ok (.invokevirtual 228, 3)) lk_Md_228 (m_shownBy (s_row σ 3 a) (upd f (19 + 6 * o + 0) (nI k)) b (hI.up (by decide) (Rng.of (by show k ≤ 5; omega))) o (by rw [nn_up (by omega)]; exact ho) 255 (by omega)) rfl rfl rfl rfl (Nat.le_of_ble_eq_true rfl) (Nat.le_of_ble_eq_true rfl) (fun r53 s53 h53 => ?_)
    obtain ⟨rfl, rfl⟩ := h53
    refine g_sto (σ' := mS (s_row σ 3 (upd f (19 + 6 * o + 0) (nI k))) (upd f (19 + 6 * o + 0) (nI k)) (yB 255 (upd f (19 + 6 * o + 0) (nI k)) b (shw 255 o 61 (upd f (19 + 6 * o + 0) (nI k))))) (by rw [s_row_row]) ?_
    refine g_istore (L' := [some (.ref 0), some (.int (nI o)), some (.int (nI (19 + 6 * o))), some (.int (f (19 + 6 * o))), some (.int ((bl (nI 0, -1) (fun p => shw 255 o 61 (upd f (19 + 6 * o + 0) (nI p))) k).1)), some (.int ((bl (nI 0, -1) (fun p => shw 255 o 61 (upd f (19 + 6 * o + 0) (nI p))) k).2)), some (.int (nI k)), some (.int (nI (shw 255 o 61 (upd f (19 + 6 * o + 0) (nI k)))))]) (by decide +kernel : decode prog_10_method_67_code 56 = .ok (.istore 7, 2)) (Nat.le_of_ble_eq_true rfl) rfl ?_
    refine g_iload (by decide +kernel : decode prog_10_method_67_code 58 = .ok (.iload 7, 2)) rfl ?_
    refine g_iload (by decide +kernel : decode prog_10_method_67_code 60 = .ok (.iload 5, 2)) rfl ?_
    have J62 : G (ΛM, mt_Md_kindFor, 5) X (mS (s_row σ 3 (upd f (19 + 6 * o + 0) (nI k))) (upd f (19 + 6 * o + 0) (nI k)) (yB 255 (upd f (19 + 6 * o + 0) (nI k)) b (shw 255 o 61 (upd f (19 + 6 * o + 0) (nI k))))) [some (.ref 0), some (.int (nI o)), some (.int (nI (19 + 6 * o))), some (.int (f (19 + 6 * o))), some (.int ((bl (nI 0, -1) (fun p => shw 255 o 61 (upd f (19 + 6 * o + 0) (nI p))) k).1)), some (.int ((bl (nI 0, -1) (fun p => shw 255 o 61 (upd f (19 + 6 * o + 0) (nI p))) k).2)), some (.int (nI k)), some (.int (nI (shw 255 o 61 (upd f (19 + 6 * o + 0) (nI k)))))] [.int ((bl (nI 0, -1) (fun p => shw 255 o 61 (upd f (19 + 6 * o + 0) (nI p))) (k + 1)).1)] 72 := by
      refine g_istore (L' := [some (.ref 0), some (.int (nI o)), some (.int (nI (19 + 6 * o))), some (.int (f (19 + 6 * o))), some (.int ((bl (nI 0, -1) (fun p => shw 255 o 61 (upd f (19 + 6 * o + 0) (nI p))) (k + 1)).1)), some (.int ((bl (nI 0, -1) (fun p => shw 255 o 61 (upd f (19 + 6 * o + 0) (nI p))) k).2)), some (.int (nI k)), some (.int (nI (shw 255 o 61 (upd f (19 + 6 * o + 0) (nI k)))))]) (by decide +kernel : decode prog_10_method_67_code 72 = .ok (.istore 4, 2)) (Nat.le_of_ble_eq_true rfl) rfl ?_
      refine g_iload (by decide +kernel : decode prog_10_method_67_code 74 = .ok (.iload 7, 2)) rfl ?_
      refine g_iload (by decide +kernel : decode prog_10_method_67_code 76 = .ok (.iload 5, 2)) rfl ?_
      have J78 : G (ΛM, mt_Md_kindFor, 5) X (mS (s_row σ 3 (upd f (19 + 6 * o + 0) (nI k))) (upd f (19 + 6 * o + 0) (nI k)) (yB 255 (upd f (19 + 6 * o + 0) (nI k)) b (shw 255 o 61 (upd f (19 + 6 * o + 0) (nI k))))) [some (.ref 0), some (.int (nI o)), some (.int (nI (19 + 6 * o))), some (.int (f (19 + 6 * o))), some (.int ((bl (nI 0, -1) (fun p => shw 255 o 61 (upd f (19 + 6 * o + 0) (nI p))) (k + 1)).1)), some (.int ((bl (nI 0, -1) (fun p => shw 255 o 61 (upd f (19 + 6 * o + 0) (nI p))) k).2)), some (.int (nI k)), some (.int (nI (shw 255 o 61 (upd f (19 + 6 * o + 0) (nI k)))))] [.int ((bl (nI 0, -1) (fun p => shw 255 o 61 (upd f (19 + 6 * o + 0) (nI p))) (k + 1)).2)] 88 := by
        refine g_istore (L' := [some (.ref 0), some (.int (nI o)), some (.int (nI (19 + 6 * o))), some (.int (f (19 + 6 * o))), some (.int ((bl (nI 0, -1) (fun p => shw 255 o 61 (upd f (19 + 6 * o + 0) (nI p))) (k + 1)).1)), some (.int ((bl (nI 0, -1) (fun p => shw 255 o 61 (upd f (19 + 6 * o + 0) (nI p))) (k + 1)).2)), some (.int (nI k)), some (.int (nI (shw 255 o 61 (upd f (19 + 6 * o + 0) (nI k)))))]) (by decide +kernel : decode prog_10_method_67_code 88 = .ok (.istore 5, 2)) (Nat.le_of_ble_eq_true rfl) rfl ?_
        refine g_iincN (n := 1) (L' := [some (.ref 0), some (.int (nI o)), some (.int (nI (19 + 6 * o))), some (.int (f (19 + 6 * o))), some (.int ((bl (nI 0, -1) (fun p => shw 255 o 61 (upd f (19 + 6 * o + 0) (nI p))) (k + 1)).1)), some (.int ((bl (nI 0, -1) (fun p => shw 255 o 61 (upd f (19 + 6 * o + 0) (nI p))) (k + 1)).2)), some (.int (nI (k + 1))), some (.int (nI (shw 255 o 61 (upd f (19 + 6 * o + 0) (nI k)))))]) (by decide +kernel : decode prog_10_method_67_code 90 = .ok (.iinc 6 1, 3)) rfl (by decide) (Nat.le_of_ble_eq_true rfl) rfl ?_
        refine g_goto (tgt := 34) (by decide +kernel : decode prog_10_method_67_code 93 = .ok (.goto (-59), 3)) (by decide) ?_
        refine g_sub (L' := [some (.ref 0), some (.int (nI o)), some (.int (nI (19 + 6 * o))), some (.int (f (19 + 6 * o))), some (.int ((bl (nI 0, -1) (fun p => shw 255 o 61 (upd f (19 + 6 * o + 0) (nI p))) (k + 1)).1)), some (.int ((bl (nI 0, -1) (fun p => shw 255 o 61 (upd f (19 + 6 * o + 0) (nI p))) (k + 1)).2)), some (.int (nI (k + 1))), none]) ⟨rfl, rfl, rfl, rfl, rfl, rfl, rfl, trivial⟩ ?_
        exact ih (k + 1) (by omega) (by omega) _ (Rng.of (by show k ≤ 5; omega)) _ _ hR
      refine g_icmp_le (tgt := 86) (by decide +kernel : decode prog_10_method_67_code 78 = .ok (.if_icmp .le 8, 3)) (by decide) (fun h78 => ?_) (fun h78 => ?_)
      · refine g_iload (by decide +kernel : decode prog_10_method_67_code 86 = .ok (.iload 5, 2)) rfl ?_
        exact g_top (by rw [bl_2]; exact (if_neg (Int32.not_lt.mpr h78)).symm) J78
      · refine g_iload (by decide +kernel : decode prog_10_method_67_code 81 = .ok (.iload 7, 2)) rfl ?_
        refine g_goto (tgt := 88) (by decide +kernel : decode prog_10_method_67_code 83 = .ok (.goto 5, 3)) (by decide) ?_
        exact g_top (by rw [bl_2]; exact (if_pos (Int32.not_le.mp h78)).symm) J78
    refine g_icmp_le (tgt := 70) (by decide +kernel : decode prog_10_method_67_code 62 = .ok (.if_icmp .le 8, 3)) (by decide) (fun h62 => ?_) (fun h62 => ?_)
    · refine g_iload (by decide +kernel : decode prog_10_method_67_code 70 = .ok (.iload 4, 2)) rfl ?_
      exact g_top (by rw [bl_1]; exact (if_neg (Int32.not_lt.mpr h62)).symm) J62
    · refine g_iload (by decide +kernel : decode prog_10_method_67_code 65 = .ok (.iload 6, 2)) rfl ?_
      refine g_goto (tgt := 72) (by decide +kernel : decode prog_10_method_67_code 67 = .ok (.goto 5, 3)) (by decide) ?_
      exact g_top (by rw [bl_1]; exact (if_pos (Int32.not_le.mp h62)).symm) J62
set_option maxRecDepth 20000 in
theorem p_kindFor (σ : Store) (f b : Row) (hI : Inv f) (x : Int32) : Ct ΛM mt_Md_kindFor 5 [.ref 0, .int x] (mS σ f b) (mP σ (kindV f x) f) := by
  refine Ct.of (by decide) (Nat.le_of_ble_eq_true rfl) (fun X hR => ?_)
  show G (ΛM, mt_Md_kindFor, 5) X (mS σ f b) [some (.ref 0), some (.int x), none, none, none, none, none, none] [] 0
  have hn8 := hI.n.2
  refine g_aload_n (by decide +kernel : decode prog_10_method_67_code 0 = .ok (.aload_n 0, 1)) rfl ?_
  refine g_iload_n (by decide +kernel : decode prog_10_method_67_code 1 = .ok (.iload_n 1, 1)) rfl ?_
  refine g_callVI [.int x] (by decide +kernel : decode prog_10_method_67_code 2 = .ok (.invokevirtual 172, 3)) lk_Md_172 (m_isOne (mS σ f b) x hI.n.1 (by omega)) rfl rfl rfl rfl (Nat.le_of_ble_eq_true rfl) (Nat.le_of_ble_eq_true rfl) (fun r2 s2 h2 => ?_)
  rcases h2 with ⟨rfl, ⟨rfl, o, ho2, rfl⟩ | ⟨rfl, n2⟩⟩
  · refine g_if_neN (tgt := 10) (by decide +kernel : decode prog_10_method_67_code 5 = .ok (.ifCond .ne 5, 3)) (by decide) (by decide) (fun _ => ?_) (fun h => False.elim (by revert h; decide))
    refine g_bipush (v := nI 19) (by decide +kernel : decode prog_10_method_67_code 10 = .ok (.bipush 19, 2)) (by decide) ?_
    refine g_bipush (v := nI 6) (by decide +kernel : decode prog_10_method_67_code 12 = .ok (.bipush 6, 2)) (by decide) ?_
    refine g_iload_n (by decide +kernel : decode prog_10_method_67_code 14 = .ok (.iload_n 1, 1)) rfl ?_
    refine g_imulN (by decide +kernel : decode prog_10_method_67_code 15 = .ok (.imul, 1)) ?_
    refine g_iaddN (by decide +kernel : decode prog_10_method_67_code 16 = .ok (.iadd, 1)) ?_
    refine g_istore_n (L' := [some (.ref 0), some (.int (nI o)), some (.int (nI (19 + 6 * o))), none, none, none, none, none]) (by decide +kernel : decode prog_10_method_67_code 17 = .ok (.istore_n 2, 1)) (Nat.le_of_ble_eq_true rfl) rfl ?_
    refine g_aload_n (by decide +kernel : decode prog_10_method_67_code 18 = .ok (.aload_n 0, 1)) rfl ?_
    refine g_getR (by decide +kernel : decode prog_10_method_67_code 19 = .ok (.getfield 7, 3)) fl_Md_7 rfl rfl ?_
    refine g_iload_n (by decide +kernel : decode prog_10_method_67_code 22 = .ok (.iload_n 2, 1)) rfl ?_
    refine g_iaload (a := 19 + 6 * o) (by decide +kernel : decode prog_10_method_67_code 23 = .ok (.iaload, 1)) rfl rfl (by omega) (by decide) ?_
    refine g_top (w := f (19 + 6 * o)) (rfl) ?_
    refine g_istore_n (L' := [some (.ref 0), some (.int (nI o)), some (.int (nI (19 + 6 * o))), some (.int (f (19 + 6 * o))), none, none, none, none]) (by decide +kernel : decode prog_10_method_67_code 24 = .ok (.istore_n 3, 1)) (Nat.le_of_ble_eq_true rfl) rfl ?_
    refine g_iconst (v := nI 0) (by decide +kernel : decode prog_10_method_67_code 25 = .ok (.iconst 0, 1)) (by decide) ?_
    refine g_istore (L' := [some (.ref 0), some (.int (nI o)), some (.int (nI (19 + 6 * o))), some (.int (f (19 + 6 * o))), some (.int (nI 0)), none, none, none]) (by decide +kernel : decode prog_10_method_67_code 26 = .ok (.istore 4, 2)) (Nat.le_of_ble_eq_true rfl) rfl ?_
    refine g_iconst (v := (-1)) (by decide +kernel : decode prog_10_method_67_code 28 = .ok (.iconst (-1), 1)) (by decide) ?_
    refine g_istore (L' := [some (.ref 0), some (.int (nI o)), some (.int (nI (19 + 6 * o))), some (.int (f (19 + 6 * o))), some (.int (nI 0)), some (.int (-1)), none, none]) (by decide +kernel : decode prog_10_method_67_code 29 = .ok (.istore 5, 2)) (Nat.le_of_ble_eq_true rfl) rfl ?_
    refine g_iconst (v := nI 0) (by decide +kernel : decode prog_10_method_67_code 31 = .ok (.iconst 0, 1)) (by decide) ?_
    refine g_istore (L' := [some (.ref 0), some (.int (nI o)), some (.int (nI (19 + 6 * o))), some (.int (f (19 + 6 * o))), some (.int (nI 0)), some (.int (-1)), some (.int (nI 0)), none]) (by decide +kernel : decode prog_10_method_67_code 32 = .ok (.istore 6, 2)) (Nat.le_of_ble_eq_true rfl) rfl ?_
    refine g_sto (σ' := mS (s_row σ 3 (σ 3)) (upd f (19 + 6 * o + 0) (f (19 + 6 * o + 0))) b) (by rw [s_row_self, upd_self]) ?_
    exact p_kind_lp hI ho2 7 0 (by omega) (by omega) _ (hI.2.1 o ho2 0 (by decide)) _ _ (by simpa only [kindV, pz_of hI ho2] using hR)
  · refine g_if_neN (tgt := 10) (by decide +kernel : decode prog_10_method_67_code 5 = .ok (.ifCond .ne 5, 3)) (by decide) (by decide) (fun h => False.elim (by revert h; decide)) (fun _ => ?_)
    refine g_iconst (v := (-1)) (by decide +kernel : decode prog_10_method_67_code 8 = .ok (.iconst (-1), 1)) (by decide) ?_
    exact g_iret hR (by decide +kernel : decode prog_10_method_67_code 9 = .ok (.ireturn, 1)) rfl ⟨_, rfl, ⟨by simp only [kindV, pz_none hI n2], Jk.self _ _ _⟩⟩
theorem wfF_no {f : Row} {o n k : Nat} (hk : k < 10) (h : ¬ yN 255 (upd f (19 + 6 * o + 2) (nI k)) n (19 + 6 * o + 4) = nI 1) : wfF f o n (10 - k) k = wfF f o n (10 - (k + 1)) (k + 1) := by
  rw [show 10 - k = (10 - (k + 1)) + 1 by omega]
  show (if _ then _ else _) = _
  rw [if_neg h]
theorem wfF_yes {f : Row} {o n k : Nat} (hk : k < 10) (h : yN 255 (upd f (19 + 6 * o + 2) (nI k)) n (19 + 6 * o + 4) = nI 1) : wfF f o n (10 - k) k = nI k := by
  rw [show 10 - k = (10 - (k + 1)) + 1 by omega]
  show (if _ then _ else _) = _
  rw [if_pos h]
set_option maxRecDepth 20000 in
theorem p_wit_lp {X : CX} {σ : Store} {f : Row} (hI : Inv f) {o : Nat} (ho : o < nn f) {n : Nat} (hn : n < 2 ^ 31) {t : Int32} : ∀ (b9 k : Nat), k ≤ 10 → 10 - k < b9 → wfF f o n (10 - k) k = t → ∀ (v : Int32), Rng v 9 → ∀ (a b : Row), Rt (ΛM, mt_Md_witFor, 5) (mP σ t f) X → G (ΛM, mt_Md_witFor, 5) X (mS (s_row σ 3 a) (upd f (19 + 6 * o + 2) v) b) [some (.ref 0), some (.int (nI o)), some (.int (nI n)), some (.int (nI (19 + 6 * o + 2))), some (.int (f (19 + 6 * o + 2))), some (.int (-3)), some (.int (nI k))] [] 42 := by
  have hn8 := hI.n.2
  intro b9
  induction b9 with
  | zero => intro k hk hb ht v hv a b hR; omega
  | succ b9 ih =>
  intro k hk hb ht v hv a b hR
  refine g_iload (by decide +kernel : decode prog_10_method_70_code 42 = .ok (.iload 6, 2)) rfl ?_
  refine g_bipush (v := nI 9) (by decide +kernel : decode prog_10_method_70_code 44 = .ok (.bipush 9, 2)) (by decide) ?_
  refine g_icmp_gtN (tgt := 89) (by decide +kernel : decode prog_10_method_70_code 46 = .ok (.if_icmp .gt 43, 3)) (by decide) (by omega) (by decide) (fun h46 => ?_) (fun h46 => ?_)
  · refine g_aload_n (by decide +kernel : decode prog_10_method_70_code 89 = .ok (.aload_n 0, 1)) rfl ?_
    refine g_getR (by decide +kernel : decode prog_10_method_70_code 90 = .ok (.getfield 7, 3)) fl_Md_7 rfl rfl ?_
    refine g_iload_n (by decide +kernel : decode prog_10_method_70_code 93 = .ok (.iload_n 3, 1)) rfl ?_
    refine g_iload (by decide +kernel : decode prog_10_method_70_code 94 = .ok (.iload 4, 2)) rfl ?_
    refine g_iastore (a := 19 + 6 * o + 2) (by decide +kernel : decode prog_10_method_70_code 96 = .ok (.iastore, 1)) rfl rfl (by omega) (by decide) ?_
    refine g_sto (mS_u1 _ _ _ _ _) ?_
    refine g_sto (σ' := mS (s_row σ 3 a) f b) (by rw [upd_upd, upd_self]) ?_
    refine g_iload (by decide +kernel : decode prog_10_method_70_code 97 = .ok (.iload 5, 2)) rfl ?_
    exact g_iret hR (by decide +kernel : decode prog_10_method_70_code 99 = .ok (.ireturn, 1)) rfl ⟨_, rfl, ⟨by rw [← ht, show k = 10 by omega]; rfl, ⟨_, _, rfl⟩⟩⟩
  · refine g_iload (by decide +kernel : decode prog_10_method_70_code 49 = .ok (.iload 5, 2)) rfl ?_
    refine g_if_ge (tgt := 89) (by decide +kernel : decode prog_10_method_70_code 51 = .ok (.ifCond .ge 38, 3)) (by decide) (fun h => False.elim (by revert h; decide)) (fun _ => ?_)
    refine g_aload_n (by decide +kernel : decode prog_10_method_70_code 54 = .ok (.aload_n 0, 1)) rfl ?_
    refine g_getR (by decide +kernel : decode prog_10_method_70_code 55 = .ok (.getfield 7, 3)) fl_Md_7 rfl rfl ?_
    refine g_iload_n (by decide +kernel : decode prog_10_method_70_code 58 = .ok (.iload_n 3, 1)) rfl ?_
    refine g_iload (by decide +kernel : decode prog_10_method_70_code 59 = .ok (.iload 6, 2)) rfl ?_
    refine g_iastore (a := 19 + 6 * o + 2) (by decide +kernel : decode prog_10_method_70_code 61 = .ok (.iastore, 1)) rfl rfl (by omega) (by decide) ?_
    refine g_sto (mS_u1 _ _ _ _ _) ?_
    refine g_sto (σ' := mS (s_row σ 3 a) (upd f (19 + 6 * o + 2) (nI k)) b) (by rw [upd_upd]) ?_
    refine g_aload_n (by decide +kernel : decode prog_10_method_70_code 62 = .ok (.aload_n 0, 1)) rfl ?_
    refine g_iload_n (by decide +kernel : decode prog_10_method_70_code 63 = .ok (.iload_n 1, 1)) rfl ?_
    refine g_iload_n (by decide +kernel : decode prog_10_method_70_code 64 = .ok (.iload_n 2, 1)) rfl ?_
    refine g_sipush (v := nI 255) (by decide +kernel : decode prog_10_method_70_code 65 = .ok (.sipush 255, 3)) (by decide) ?_
    refine g_callVI [.int (nI o), .int (nI n), .int (nI 255)] (by decide +kernel : decode prog_10_method_70_code 68 = .ok (.invokevirtual 236, 3)) lk_Md_236 (m_isHiddenBy (s_row σ 3 a) (upd f (19 + 6 * o + 2) (nI k)) b (hI.up (by decide) (Rng.of (by show k ≤ 9; omega))) o (by rw [nn_up (by omega)]; exact ho) n 255 (by omega) (by omega)) rfl rfl rfl rfl (Nat.le_of_ble_eq_true rfl) (Nat.le_of_ble_eq_true rfl) (fun r68 s68 h68 => ?_)
    rcases h68 with ⟨rfl, ⟨rfl, q68⟩ | ⟨rfl, q68⟩⟩
    · refine g_sto (σ' := mS (s_row σ 3 (upd f (19 + 6 * o + 2) (nI k))) (upd f (19 + 6 * o + 2) (nI k)) (yB 255 (upd f (19 + 6 * o + 2) (nI k)) b n)) (by rw [s_row_row]) ?_
      refine g_if_eqN (tgt := 79) (by decide +kernel : decode prog_10_method_70_code 71 = .ok (.ifCond .eq 8, 3)) (by decide) (by decide) (fun h => False.elim (by revert h; decide)) (fun _ => ?_)
      refine g_iload (by decide +kernel : decode prog_10_method_70_code 74 = .ok (.iload 6, 2)) rfl ?_
      refine g_goto (tgt := 81) (by decide +kernel : decode prog_10_method_70_code 76 = .ok (.goto 5, 3)) (by decide) ?_
      refine g_istore (L' := [some (.ref 0), some (.int (nI o)), some (.int (nI n)), some (.int (nI (19 + 6 * o + 2))), some (.int (f (19 + 6 * o + 2))), some (.int (nI k)), some (.int (nI k))]) (by decide +kernel : decode prog_10_method_70_code 81 = .ok (.istore 5, 2)) (Nat.le_of_ble_eq_true rfl) rfl ?_
      refine g_iincN (n := 1) (L' := [some (.ref 0), some (.int (nI o)), some (.int (nI n)), some (.int (nI (19 + 6 * o + 2))), some (.int (f (19 + 6 * o + 2))), some (.int (nI k)), some (.int (nI (k + 1)))]) (by decide +kernel : decode prog_10_method_70_code 83 = .ok (.iinc 6 1, 3)) rfl (by decide) (Nat.le_of_ble_eq_true rfl) rfl ?_
      refine g_goto (tgt := 42) (by decide +kernel : decode prog_10_method_70_code 86 = .ok (.goto (-44), 3)) (by decide) ?_
      refine g_iload (by decide +kernel : decode prog_10_method_70_code 42 = .ok (.iload 6, 2)) rfl ?_
      refine g_bipush (v := nI 9) (by decide +kernel : decode prog_10_method_70_code 44 = .ok (.bipush 9, 2)) (by decide) ?_
      refine g_icmp_gtN (tgt := 89) (by decide +kernel : decode prog_10_method_70_code 46 = .ok (.if_icmp .gt 43, 3)) (by decide) (by omega) (by decide) (fun h46 => ?_) (fun h46 => ?_)
      · refine g_aload_n (by decide +kernel : decode prog_10_method_70_code 89 = .ok (.aload_n 0, 1)) rfl ?_
        refine g_getR (by decide +kernel : decode prog_10_method_70_code 90 = .ok (.getfield 7, 3)) fl_Md_7 rfl rfl ?_
        refine g_iload_n (by decide +kernel : decode prog_10_method_70_code 93 = .ok (.iload_n 3, 1)) rfl ?_
        refine g_iload (by decide +kernel : decode prog_10_method_70_code 94 = .ok (.iload 4, 2)) rfl ?_
        refine g_iastore (a := 19 + 6 * o + 2) (by decide +kernel : decode prog_10_method_70_code 96 = .ok (.iastore, 1)) rfl rfl (by omega) (by decide) ?_
        refine g_sto (mS_u1 _ _ _ _ _) ?_
        refine g_sto (σ' := mS (s_row σ 3 (upd f (19 + 6 * o + 2) (nI k))) f (yB 255 (upd f (19 + 6 * o + 2) (nI k)) b n)) (by rw [upd_upd, upd_self]) ?_
        refine g_iload (by decide +kernel : decode prog_10_method_70_code 97 = .ok (.iload 5, 2)) rfl ?_
        exact g_iret hR (by decide +kernel : decode prog_10_method_70_code 99 = .ok (.ireturn, 1)) rfl ⟨_, rfl, ⟨by rw [← ht, wfF_yes (by omega) q68], ⟨_, _, rfl⟩⟩⟩
      · refine g_iload (by decide +kernel : decode prog_10_method_70_code 49 = .ok (.iload 5, 2)) rfl ?_
        refine g_if_geN (tgt := 89) (by decide +kernel : decode prog_10_method_70_code 51 = .ok (.ifCond .ge 38, 3)) (by decide) (by omega) ?_
        refine g_aload_n (by decide +kernel : decode prog_10_method_70_code 89 = .ok (.aload_n 0, 1)) rfl ?_
        refine g_getR (by decide +kernel : decode prog_10_method_70_code 90 = .ok (.getfield 7, 3)) fl_Md_7 rfl rfl ?_
        refine g_iload_n (by decide +kernel : decode prog_10_method_70_code 93 = .ok (.iload_n 3, 1)) rfl ?_
        refine g_iload (by decide +kernel : decode prog_10_method_70_code 94 = .ok (.iload 4, 2)) rfl ?_
        refine g_iastore (a := 19 + 6 * o + 2) (by decide +kernel : decode prog_10_method_70_code 96 = .ok (.iastore, 1)) rfl rfl (by omega) (by decide) ?_
        refine g_sto (mS_u1 _ _ _ _ _) ?_
        refine g_sto (σ' := mS (s_row σ 3 (upd f (19 + 6 * o + 2) (nI k))) f (yB 255 (upd f (19 + 6 * o + 2) (nI k)) b n)) (by rw [upd_upd, upd_self]) ?_
        refine g_iload (by decide +kernel : decode prog_10_method_70_code 97 = .ok (.iload 5, 2)) rfl ?_
        exact g_iret hR (by decide +kernel : decode prog_10_method_70_code 99 = .ok (.ireturn, 1)) rfl ⟨_, rfl, ⟨by rw [← ht, wfF_yes (by omega) q68], ⟨_, _, rfl⟩⟩⟩
    · refine g_sto (σ' := mS (s_row σ 3 (upd f (19 + 6 * o + 2) (nI k))) (upd f (19 + 6 * o + 2) (nI k)) (yB 255 (upd f (19 + 6 * o + 2) (nI k)) b n)) (by rw [s_row_row]) ?_
      refine g_if_eqN (tgt := 79) (by decide +kernel : decode prog_10_method_70_code 71 = .ok (.ifCond .eq 8, 3)) (by decide) (by decide) (fun _ => ?_) (fun h => False.elim (by revert h; decide))
      refine g_bipush (v := (-3)) (by decide +kernel : decode prog_10_method_70_code 79 = .ok (.bipush (-3), 2)) (by decide) ?_
      refine g_istore (L' := [some (.ref 0), some (.int (nI o)), some (.int (nI n)), some (.int (nI (19 + 6 * o + 2))), some (.int (f (19 + 6 * o + 2))), some (.int (-3)), some (.int (nI k))]) (by decide +kernel : decode prog_10_method_70_code 81 = .ok (.istore 5, 2)) (Nat.le_of_ble_eq_true rfl) rfl ?_
      refine g_iincN (n := 1) (L' := [some (.ref 0), some (.int (nI o)), some (.int (nI n)), some (.int (nI (19 + 6 * o + 2))), some (.int (f (19 + 6 * o + 2))), some (.int (-3)), some (.int (nI (k + 1)))]) (by decide +kernel : decode prog_10_method_70_code 83 = .ok (.iinc 6 1, 3)) rfl (by decide) (Nat.le_of_ble_eq_true rfl) rfl ?_
      refine g_goto (tgt := 42) (by decide +kernel : decode prog_10_method_70_code 86 = .ok (.goto (-44), 3)) (by decide) ?_
      refine g_sub (L' := [some (.ref 0), some (.int (nI o)), some (.int (nI n)), some (.int (nI (19 + 6 * o + 2))), some (.int (f (19 + 6 * o + 2))), some (.int (-3)), some (.int (nI (k + 1)))]) ⟨rfl, rfl, rfl, rfl, rfl, rfl, rfl, trivial⟩ ?_
      exact ih (k + 1) (by omega) (by omega) (by rw [← ht]; exact (wfF_no (by omega) q68).symm) _ (Rng.of (by show k ≤ 9; omega)) _ _ hR
set_option maxRecDepth 20000 in
theorem p_witFor (σ : Store) (f b : Row) (hI : Inv f) (x y : Int32) : Ct ΛM mt_Md_witFor 5 [.ref 0, .int x, .int y] (mS σ f b) (mP σ (witV f x y) f) := by
  refine Ct.of (by decide) (Nat.le_of_ble_eq_true rfl) (fun X hR => ?_)
  show G (ΛM, mt_Md_witFor, 5) X (mS σ f b) [some (.ref 0), some (.int x), some (.int y), none, none, none, none] [] 0
  have hn8 := hI.n.2
  refine g_aload_n (by decide +kernel : decode prog_10_method_70_code 0 = .ok (.aload_n 0, 1)) rfl ?_
  refine g_iload_n (by decide +kernel : decode prog_10_method_70_code 1 = .ok (.iload_n 1, 1)) rfl ?_
  refine g_callVI [.int x] (by decide +kernel : decode prog_10_method_70_code 2 = .ok (.invokevirtual 172, 3)) lk_Md_172 (m_isOne (mS σ f b) x hI.n.1 (by omega)) rfl rfl rfl rfl (Nat.le_of_ble_eq_true rfl) (Nat.le_of_ble_eq_true rfl) (fun r2 s2 h2 => ?_)
  rcases h2 with ⟨rfl, ⟨rfl, o, ho2, rfl⟩ | ⟨rfl, n2⟩⟩
  · refine g_if_eqN (tgt := 15) (by decide +kernel : decode prog_10_method_70_code 5 = .ok (.ifCond .eq 10, 3)) (by decide) (by decide) (fun h => False.elim (by revert h; decide)) (fun _ => ?_)
    refine g_iload_n (by decide +kernel : decode prog_10_method_70_code 8 = .ok (.iload_n 2, 1)) rfl ?_
    refine g_callSI [.int y] (by decide +kernel : decode prog_10_method_70_code 9 = .ok (.invokestatic 233, 3)) lk_Md_233 (m_isShort (mS σ f b) y) rfl rfl (Nat.le_of_ble_eq_true rfl) (Nat.le_of_ble_eq_true rfl) (fun r9 s9 h9 => ?_)
    rcases h9 with ⟨rfl, ⟨rfl, n, ha9, hb9, rfl⟩ | ⟨rfl, n9⟩⟩
    · refine g_if_neN (tgt := 17) (by decide +kernel : decode prog_10_method_70_code 12 = .ok (.ifCond .ne 5, 3)) (by decide) (by decide) (fun _ => ?_) (fun h => False.elim (by revert h; decide))
      refine g_bipush (v := nI 19) (by decide +kernel : decode prog_10_method_70_code 17 = .ok (.bipush 19, 2)) (by decide) ?_
      refine g_bipush (v := nI 6) (by decide +kernel : decode prog_10_method_70_code 19 = .ok (.bipush 6, 2)) (by decide) ?_
      refine g_iload_n (by decide +kernel : decode prog_10_method_70_code 21 = .ok (.iload_n 1, 1)) rfl ?_
      refine g_imulN (by decide +kernel : decode prog_10_method_70_code 22 = .ok (.imul, 1)) ?_
      refine g_iaddN (by decide +kernel : decode prog_10_method_70_code 23 = .ok (.iadd, 1)) ?_
      refine g_iconst (v := nI 2) (by decide +kernel : decode prog_10_method_70_code 24 = .ok (.iconst 2, 1)) (by decide) ?_
      refine g_iaddN (by decide +kernel : decode prog_10_method_70_code 25 = .ok (.iadd, 1)) ?_
      refine g_istore_n (L' := [some (.ref 0), some (.int (nI o)), some (.int (nI n)), some (.int (nI (19 + 6 * o + 2))), none, none, none]) (by decide +kernel : decode prog_10_method_70_code 26 = .ok (.istore_n 3, 1)) (Nat.le_of_ble_eq_true rfl) rfl ?_
      refine g_aload_n (by decide +kernel : decode prog_10_method_70_code 27 = .ok (.aload_n 0, 1)) rfl ?_
      refine g_getR (by decide +kernel : decode prog_10_method_70_code 28 = .ok (.getfield 7, 3)) fl_Md_7 rfl rfl ?_
      refine g_iload_n (by decide +kernel : decode prog_10_method_70_code 31 = .ok (.iload_n 3, 1)) rfl ?_
      refine g_iaload (a := 19 + 6 * o + 2) (by decide +kernel : decode prog_10_method_70_code 32 = .ok (.iaload, 1)) rfl rfl (by omega) (by decide) ?_
      refine g_top (w := f (19 + 6 * o + 2)) (rfl) ?_
      refine g_istore (L' := [some (.ref 0), some (.int (nI o)), some (.int (nI n)), some (.int (nI (19 + 6 * o + 2))), some (.int (f (19 + 6 * o + 2))), none, none]) (by decide +kernel : decode prog_10_method_70_code 33 = .ok (.istore 4, 2)) (Nat.le_of_ble_eq_true rfl) rfl ?_
      refine g_bipush (v := (-3)) (by decide +kernel : decode prog_10_method_70_code 35 = .ok (.bipush (-3), 2)) (by decide) ?_
      refine g_istore (L' := [some (.ref 0), some (.int (nI o)), some (.int (nI n)), some (.int (nI (19 + 6 * o + 2))), some (.int (f (19 + 6 * o + 2))), some (.int (-3)), none]) (by decide +kernel : decode prog_10_method_70_code 37 = .ok (.istore 5, 2)) (Nat.le_of_ble_eq_true rfl) rfl ?_
      refine g_iconst (v := nI 0) (by decide +kernel : decode prog_10_method_70_code 39 = .ok (.iconst 0, 1)) (by decide) ?_
      refine g_istore (L' := [some (.ref 0), some (.int (nI o)), some (.int (nI n)), some (.int (nI (19 + 6 * o + 2))), some (.int (f (19 + 6 * o + 2))), some (.int (-3)), some (.int (nI 0))]) (by decide +kernel : decode prog_10_method_70_code 40 = .ok (.istore 6, 2)) (Nat.le_of_ble_eq_true rfl) rfl ?_
      refine g_sto (σ' := mS (s_row σ 3 (σ 3)) (upd f (19 + 6 * o + 2) (f (19 + 6 * o + 2))) b) (by rw [s_row_self, upd_self]) ?_
      exact p_wit_lp hI ho2 (by omega) 11 0 (by omega) (by omega) rfl _ (hI.2.1 o ho2 2 (by decide)) _ _ (by simpa only [witV, pz_of hI ho2, rg_of ha9 hb9] using hR)
    · refine g_if_neN (tgt := 17) (by decide +kernel : decode prog_10_method_70_code 12 = .ok (.ifCond .ne 5, 3)) (by decide) (by decide) (fun h => False.elim (by revert h; decide)) (fun _ => ?_)
      refine g_iconst (v := (-1)) (by decide +kernel : decode prog_10_method_70_code 15 = .ok (.iconst (-1), 1)) (by decide) ?_
      exact g_iret hR (by decide +kernel : decode prog_10_method_70_code 16 = .ok (.ireturn, 1)) rfl ⟨_, rfl, ⟨by simp only [witV, pz_of hI ho2, rg_none n9], Jk.self _ _ _⟩⟩
  · refine g_if_eqN (tgt := 15) (by decide +kernel : decode prog_10_method_70_code 5 = .ok (.ifCond .eq 10, 3)) (by decide) (by decide) (fun _ => ?_) (fun h => False.elim (by revert h; decide))
    refine g_iconst (v := (-1)) (by decide +kernel : decode prog_10_method_70_code 15 = .ok (.iconst (-1), 1)) (by decide) ?_
    exact g_iret hR (by decide +kernel : decode prog_10_method_70_code 16 = .ok (.ireturn, 1)) rfl ⟨_, rfl, ⟨by simp only [witV, pz_none hI n2], Jk.self _ _ _⟩⟩
theorem msk_q : ∀ q : Fin 8, nI 255 &&& (nI 1 <<< (nI q.val &&& 31) ^^^ (-1)) = nI (255 - 2 ^ q.val) := by decide +kernel
set_option maxRecDepth 20000 in
theorem p_need_lp {X : CX} {σ : Store} {f : Row} (hI : Inv f) {o : Nat} (ho : o < nn f) : ∀ (b9 k : Nat), k ≤ nn f → nn f - k < b9 → ∀ (a b : Row), Rt (ΛM, mt_Md_needed, 5) (mP σ (bl (-3, nI (shw 255 o 61 f)) (fun q => shw (255 - 2 ^ q) o 61 f) (nn f)).1 f) X → G (ΛM, mt_Md_needed, 5) X (mS (s_row σ 3 a) f b) [some (.ref 0), some (.int (nI o)), some (.int ((bl (-3, nI (shw 255 o 61 f)) (fun q => shw (255 - 2 ^ q) o 61 f) k).2)), some (.int ((bl (-3, nI (shw 255 o 61 f)) (fun q => shw (255 - 2 ^ q) o 61 f) k).1)), some (.int (nI k)), none] [] 25 := by
  have hn8 := hI.n.2
  intro b9
  induction b9 with
  | zero => intro k hk hb a b hR; omega
  | succ b9 ih =>
  intro k hk hb a b hR
  refine g_iload (by decide +kernel : decode prog_10_method_71_code 25 = .ok (.iload 4, 2)) rfl ?_
  refine g_aload_n (by decide +kernel : decode prog_10_method_71_code 27 = .ok (.aload_n 0, 1)) rfl ?_
  refine g_getR (by decide +kernel : decode prog_10_method_71_code 28 = .ok (.getfield 7, 3)) fl_Md_7 rfl rfl ?_
  refine g_iconst (v := nI 0) (by decide +kernel : decode prog_10_method_71_code 31 = .ok (.iconst 0, 1)) (by decide) ?_
  refine g_iaload (a := 0) (by decide +kernel : decode prog_10_method_71_code 32 = .ok (.iaload, 1)) rfl rfl (by decide) (by decide) ?_
  refine g_top (w := nI (nn f)) (hI.n.1) ?_
  refine g_icmp_geN (tgt := 85) (by decide +kernel : decode prog_10_method_71_code 33 = .ok (.if_icmp .ge 52, 3)) (by decide) (by omega) (by omega) (fun h33 => ?_) (fun h33 => ?_)
  · refine g_iload_n (by decide +kernel : decode prog_10_method_71_code 85 = .ok (.iload_n 3, 1)) rfl ?_
    exact g_iret hR (by decide +kernel : decode prog_10_method_71_code 86 = .ok (.ireturn, 1)) rfl ⟨_, rfl, ⟨by rw [show k = nn f by omega], ⟨_, _, rfl⟩⟩⟩
  · refine g_aload_n (by decide +kernel : decode prog_10_method_71_code 36 = .ok (.aload_n 0, 1)) rfl ?_
    refine g_iload_n (by decide +kernel : decode prog_10_method_71_code 37 = .ok (.iload_n 1, 1)) rfl ?_
    refine g_sipush (v := nI 255) (by decide +kernel : decode prog_10_method_71_code 38 = .ok (.sipush 255, 3)) (by decide) ?_
    refine g_iconst (v := nI 1) (by decide +kernel : decode prog_10_method_71_code 41 = .ok (.iconst 1, 1)) (by decide) ?_
    refine g_iload (by decide +kernel : decode prog_10_method_71_code 42 = .ok (.iload 4, 2)) rfl ?_
    refine g_ishl (by decide +kernel : decode prog_10_method_71_code 44 = .ok (.ishl, 1)) ?_
    refine g_iconst (v := (-1)) (by decide +kernel : decode prog_10_method_71_code 45 = .ok (.iconst (-1), 1)) (by decide) ?_
    refine g_ixor (by decide +kernel : decode prog_10_method_71_code 46 = .ok (.ixor, 1)) ?_
    refine g_iand (by decide +kernel : decode prog_10_method_71_code 47 = .ok (.iand, 1)) ?_
    refine g_top (w := nI (255 - 2 ^ k)) (msk_q ⟨k, by omega⟩) ?_
    refine g_callVI [.int (nI o), .int (nI (255 - 2 ^ k))] (by decide +kernel : decode prog_10_method_71_code 48 = .ok (.invokevirtual 228, 3)) lk_Md_228 (m_shownBy (s_row σ 3 a) f b hI o ho (255 - 2 ^ k) (Nat.lt_of_le_of_lt (Nat.sub_le _ _) (by decide))) rfl rfl rfl rfl (Nat.le_of_ble_eq_true rfl) (Nat.le_of_ble_eq_true rfl) (fun r48 s48 h48 => ?_)
    obtain ⟨rfl, rfl⟩ := h48
    refine g_sto (σ' := mS (s_row σ 3 f) f (yB (255 - 2 ^ k) f b (shw (255 - 2 ^ k) o 61 f))) (by rw [s_row_row]) ?_
    refine g_istore (L' := [some (.ref 0), some (.int (nI o)), some (.int ((bl (-3, nI (shw 255 o 61 f)) (fun q => shw (255 - 2 ^ q) o 61 f) k).2)), some (.int ((bl (-3, nI (shw 255 o 61 f)) (fun q => shw (255 - 2 ^ q) o 61 f) k).1)), some (.int (nI k)), some (.int (nI (shw (255 - 2 ^ k) o 61 f)))]) (by decide +kernel : decode prog_10_method_71_code 51 = .ok (.istore 5, 2)) (Nat.le_of_ble_eq_true rfl) rfl ?_
    refine g_iload (by decide +kernel : decode prog_10_method_71_code 53 = .ok (.iload 5, 2)) rfl ?_
    refine g_iload_n (by decide +kernel : decode prog_10_method_71_code 55 = .ok (.iload_n 2, 1)) rfl ?_
    have J56 : G (ΛM, mt_Md_needed, 5) X (mS (s_row σ 3 f) f (yB (255 - 2 ^ k) f b (shw (255 - 2 ^ k) o 61 f))) [some (.ref 0), some (.int (nI o)), some (.int ((bl (-3, nI (shw 255 o 61 f)) (fun q => shw (255 - 2 ^ q) o 61 f) k).2)), some (.int ((bl (-3, nI (shw 255 o 61 f)) (fun q => shw (255 - 2 ^ q) o 61 f) k).1)), some (.int (nI k)), some (.int (nI (shw (255 - 2 ^ k) o 61 f)))] [.int ((bl (-3, nI (shw 255 o 61 f)) (fun q => shw (255 - 2 ^ q) o 61 f) (k + 1)).1)] 65 := by
      refine g_istore_n (L' := [some (.ref 0), some (.int (nI o)), some (.int ((bl (-3, nI (shw 255 o 61 f)) (fun q => shw (255 - 2 ^ q) o 61 f) k).2)), some (.int ((bl (-3, nI (shw 255 o 61 f)) (fun q => shw (255 - 2 ^ q) o 61 f) (k + 1)).1)), some (.int (nI k)), some (.int (nI (shw (255 - 2 ^ k) o 61 f)))]) (by decide +kernel : decode prog_10_method_71_code 65 = .ok (.istore_n 3, 1)) (Nat.le_of_ble_eq_true rfl) rfl ?_
      refine g_iload (by decide +kernel : decode prog_10_method_71_code 66 = .ok (.iload 5, 2)) rfl ?_
      refine g_iload_n (by decide +kernel : decode prog_10_method_71_code 68 = .ok (.iload_n 2, 1)) rfl ?_
      have J69 : G (ΛM, mt_Md_needed, 5) X (mS (s_row σ 3 f) f (yB (255 - 2 ^ k) f b (shw (255 - 2 ^ k) o 61 f))) [some (.ref 0), some (.int (nI o)), some (.int ((bl (-3, nI (shw 255 o 61 f)) (fun q => shw (255 - 2 ^ q) o 61 f) k).2)), some (.int ((bl (-3, nI (shw 255 o 61 f)) (fun q => shw (255 - 2 ^ q) o 61 f) (k + 1)).1)), some (.int (nI k)), some (.int (nI (shw (255 - 2 ^ k) o 61 f)))] [.int ((bl (-3, nI (shw 255 o 61 f)) (fun q => shw (255 - 2 ^ q) o 61 f) (k + 1)).2)] 78 := by
        refine g_istore_n (L' := [some (.ref 0), some (.int (nI o)), some (.int ((bl (-3, nI (shw 255 o 61 f)) (fun q => shw (255 - 2 ^ q) o 61 f) (k + 1)).2)), some (.int ((bl (-3, nI (shw 255 o 61 f)) (fun q => shw (255 - 2 ^ q) o 61 f) (k + 1)).1)), some (.int (nI k)), some (.int (nI (shw (255 - 2 ^ k) o 61 f)))]) (by decide +kernel : decode prog_10_method_71_code 78 = .ok (.istore_n 2, 1)) (Nat.le_of_ble_eq_true rfl) rfl ?_
        refine g_iincN (n := 1) (L' := [some (.ref 0), some (.int (nI o)), some (.int ((bl (-3, nI (shw 255 o 61 f)) (fun q => shw (255 - 2 ^ q) o 61 f) (k + 1)).2)), some (.int ((bl (-3, nI (shw 255 o 61 f)) (fun q => shw (255 - 2 ^ q) o 61 f) (k + 1)).1)), some (.int (nI (k + 1))), some (.int (nI (shw (255 - 2 ^ k) o 61 f)))]) (by decide +kernel : decode prog_10_method_71_code 79 = .ok (.iinc 4 1, 3)) rfl (by decide) (Nat.le_of_ble_eq_true rfl) rfl ?_
        refine g_goto (tgt := 25) (by decide +kernel : decode prog_10_method_71_code 82 = .ok (.goto (-57), 3)) (by decide) ?_
        refine g_sub (L' := [some (.ref 0), some (.int (nI o)), some (.int ((bl (-3, nI (shw 255 o 61 f)) (fun q => shw (255 - 2 ^ q) o 61 f) (k + 1)).2)), some (.int ((bl (-3, nI (shw 255 o 61 f)) (fun q => shw (255 - 2 ^ q) o 61 f) (k + 1)).1)), some (.int (nI (k + 1))), none]) ⟨rfl, rfl, rfl, rfl, rfl, trivial⟩ ?_
        exact ih (k + 1) (by omega) (by omega) _ _ hR
      refine g_icmp_le (tgt := 77) (by decide +kernel : decode prog_10_method_71_code 69 = .ok (.if_icmp .le 8, 3)) (by decide) (fun h69 => ?_) (fun h69 => ?_)
      · refine g_iload_n (by decide +kernel : decode prog_10_method_71_code 77 = .ok (.iload_n 2, 1)) rfl ?_
        exact g_top (by rw [bl_2]; exact (if_neg (Int32.not_lt.mpr h69)).symm) J69
      · refine g_iload (by decide +kernel : decode prog_10_method_71_code 72 = .ok (.iload 5, 2)) rfl ?_
        refine g_goto (tgt := 78) (by decide +kernel : decode prog_10_method_71_code 74 = .ok (.goto 4, 3)) (by decide) ?_
        exact g_top (by rw [bl_2]; exact (if_pos (Int32.not_le.mp h69)).symm) J69
    refine g_icmp_le (tgt := 64) (by decide +kernel : decode prog_10_method_71_code 56 = .ok (.if_icmp .le 8, 3)) (by decide) (fun h56 => ?_) (fun h56 => ?_)
    · refine g_iload_n (by decide +kernel : decode prog_10_method_71_code 64 = .ok (.iload_n 3, 1)) rfl ?_
      exact g_top (by rw [bl_1]; exact (if_neg (Int32.not_lt.mpr h56)).symm) J56
    · refine g_iload (by decide +kernel : decode prog_10_method_71_code 59 = .ok (.iload 4, 2)) rfl ?_
      refine g_goto (tgt := 65) (by decide +kernel : decode prog_10_method_71_code 61 = .ok (.goto 4, 3)) (by decide) ?_
      exact g_top (by rw [bl_1]; exact (if_pos (Int32.not_le.mp h56)).symm) J56
set_option maxRecDepth 20000 in
theorem p_needed (σ : Store) (f b : Row) (hI : Inv f) (x : Int32) : Ct ΛM mt_Md_needed 5 [.ref 0, .int x] (mS σ f b) (mP σ (needV f x) f) := by
  refine Ct.of (by decide) (Nat.le_of_ble_eq_true rfl) (fun X hR => ?_)
  show G (ΛM, mt_Md_needed, 5) X (mS σ f b) [some (.ref 0), some (.int x), none, none, none, none] [] 0
  have hn8 := hI.n.2
  refine g_aload_n (by decide +kernel : decode prog_10_method_71_code 0 = .ok (.aload_n 0, 1)) rfl ?_
  refine g_iload_n (by decide +kernel : decode prog_10_method_71_code 1 = .ok (.iload_n 1, 1)) rfl ?_
  refine g_callVI [.int x] (by decide +kernel : decode prog_10_method_71_code 2 = .ok (.invokevirtual 172, 3)) lk_Md_172 (m_isOne (mS σ f b) x hI.n.1 (by omega)) rfl rfl rfl rfl (Nat.le_of_ble_eq_true rfl) (Nat.le_of_ble_eq_true rfl) (fun r2 s2 h2 => ?_)
  rcases h2 with ⟨rfl, ⟨rfl, o, ho2, rfl⟩ | ⟨rfl, n2⟩⟩
  · refine g_if_neN (tgt := 10) (by decide +kernel : decode prog_10_method_71_code 5 = .ok (.ifCond .ne 5, 3)) (by decide) (by decide) (fun _ => ?_) (fun h => False.elim (by revert h; decide))
    refine g_aload_n (by decide +kernel : decode prog_10_method_71_code 10 = .ok (.aload_n 0, 1)) rfl ?_
    refine g_iload_n (by decide +kernel : decode prog_10_method_71_code 11 = .ok (.iload_n 1, 1)) rfl ?_
    refine g_sipush (v := nI 255) (by decide +kernel : decode prog_10_method_71_code 12 = .ok (.sipush 255, 3)) (by decide) ?_
    refine g_callVI [.int (nI o), .int (nI 255)] (by decide +kernel : decode prog_10_method_71_code 15 = .ok (.invokevirtual 228, 3)) lk_Md_228 (m_shownBy σ f b hI o ho2 255 (by omega)) rfl rfl rfl rfl (Nat.le_of_ble_eq_true rfl) (Nat.le_of_ble_eq_true rfl) (fun r15 s15 h15 => ?_)
    obtain ⟨rfl, rfl⟩ := h15
    refine g_istore_n (L' := [some (.ref 0), some (.int (nI o)), some (.int (nI (shw 255 o 61 f))), none, none, none]) (by decide +kernel : decode prog_10_method_71_code 18 = .ok (.istore_n 2, 1)) (Nat.le_of_ble_eq_true rfl) rfl ?_
    refine g_bipush (v := (-3)) (by decide +kernel : decode prog_10_method_71_code 19 = .ok (.bipush (-3), 2)) (by decide) ?_
    refine g_istore_n (L' := [some (.ref 0), some (.int (nI o)), some (.int (nI (shw 255 o 61 f))), some (.int (-3)), none, none]) (by decide +kernel : decode prog_10_method_71_code 21 = .ok (.istore_n 3, 1)) (Nat.le_of_ble_eq_true rfl) rfl ?_
    refine g_iconst (v := nI 0) (by decide +kernel : decode prog_10_method_71_code 22 = .ok (.iconst 0, 1)) (by decide) ?_
    refine g_istore (L' := [some (.ref 0), some (.int (nI o)), some (.int (nI (shw 255 o 61 f))), some (.int (-3)), some (.int (nI 0)), none]) (by decide +kernel : decode prog_10_method_71_code 23 = .ok (.istore 4, 2)) (Nat.le_of_ble_eq_true rfl) rfl ?_
    exact p_need_lp hI ho2 (nn f + 1) 0 (Nat.zero_le _) (by omega) _ _ (by simpa only [needV, pz_of hI ho2] using hR)
  · refine g_if_neN (tgt := 10) (by decide +kernel : decode prog_10_method_71_code 5 = .ok (.ifCond .ne 5, 3)) (by decide) (by decide) (fun h => False.elim (by revert h; decide)) (fun _ => ?_)
    refine g_iconst (v := (-1)) (by decide +kernel : decode prog_10_method_71_code 8 = .ok (.iconst (-1), 1)) (by decide) ?_
    exact g_iret hR (by decide +kernel : decode prog_10_method_71_code 9 = .ok (.ireturn, 1)) rfl ⟨_, rfl, ⟨by simp only [needV, pz_none hI n2], Jk.self _ _ _⟩⟩
