/-! THE REFERENCE: what is tried (rows are laid aside and laid back) -/
/-- one of the people; a number in a range -/
def pz (f : Row) (x : Int32) : Option Nat := if 0 ≤ x ∧ x < f 0 then some (tn x) else none
def rg (a b : Nat) (x : Int32) : Option Nat := if nI a ≤ x ∧ x ≤ nI b then some (tn x) else none
theorem pz_of {f : Row} (hI : Inv f) {j : Nat} (h : j < nn f) : pz f (nI j) = some j := by
  have h8 := hI.n.2
  unfold pz
  rw [hI.n.1, if_pos ⟨nI_pos' (by omega), nI_lt h (by omega)⟩, tn_nI (by omega)]
theorem pz_none {f : Row} (hI : Inv f) {x : Int32} (h : ¬ ∃ j, j < nn f ∧ x = nI j) : pz f x = none := by
  have h8 := hI.n.2
  unfold pz
  rw [if_neg]
  rw [hI.n.1]
  exact fun q => h ((i32_lt x (by omega)).mp q)
theorem rg_of {a b j : Nat} (h1 : a ≤ j) (h2 : j ≤ b) (hb : b < 2 ^ 31 := by decide) : rg a b (nI j) = some j := by
  unfold rg
  rw [if_pos ⟨nI_le h1 (by omega), nI_le h2 hb⟩, tn_nI (by omega)]
theorem rg_none {a b : Nat} {x : Int32} (h : ¬ ∃ j, a ≤ j ∧ j ≤ b ∧ x = nI j) (hb : b < 2 ^ 31 := by decide) (hab : a ≤ b := by decide) : rg a b x = none := by
  unfold rg
  rw [if_neg]
  rintro ⟨h1, h2⟩
  apply h
  rw [Int32.le_iff_toInt_le, nI_toInt (by omega)] at h1
  rw [Int32.le_iff_toInt_le, nI_toInt hb] at h2
  refine ⟨x.toInt.toNat, by omega, by omega, ?_⟩
  apply Int32.toInt_inj.mp
  rw [nI_toInt (by omega)]; omega
/-- years on the row alone -/
def yF (m : Nat) (f : Row) : Row := (yr m f (fun _ => 0)).1
theorem seekN_b (m h : Nat) (f b b' : Row) : ∀ k, (seekN m h f b k).1 = (seekN m h f b' k).1 := by
  intro k
  induction k with
  | zero => rfl
  | succ k ih =>
    unfold seekN
    dsimp only
    rw [ih]
    split
    · exact ih
    · rfl
theorem yr_1 (m : Nat) (f b : Row) : (yr m f b).1 = yF m f := by
  unfold yF yr
  dsimp only
  rw [seekN_b m _ _ _ (rstB (fun _ => 0) (nn f))]
theorem yF_inv {m : Nat} {f : Row} (h : Inv f) : Inv (yF m f) ∧ nn (yF m f) = nn f := yr_inv h
def yN (m : Nat) (f : Row) : Nat → Row
  | 0 => f
  | k + 1 => yF m (yN m f k)
theorem yN_inv {m : Nat} {f : Row} (h : Inv f) : ∀ k, Inv (yN m f k) ∧ nn (yN m f k) = nn f := by
  intro k
  induction k with
  | zero => exact ⟨h, rfl⟩
  | succ k ih => exact ⟨(yF_inv ih.1).1, (yF_inv ih.1).2.trans ih.2⟩
/-- who found whom in k years -/
def yB (m : Nat) (f b : Row) : Nat → Row
  | 0 => b
  | k + 1 => (yr m (yN m f k) (yB m f b k)).2
/-- behind how many years one seeks first, 61: not by then -/
def shw (m o : Nat) : Nat → Row → Nat
  | 0, _ => 0
  | k + 1, f => if f (19 + 6 * o + 4) = nI 1 then 1 + shw m o k (yF m f) else 0
theorem shw_le (m o : Nat) : ∀ k f, shw m o k f ≤ k := by
  intro k
  induction k with
  | zero => intro f; exact Nat.le_refl _
  | succ k ih =>
    intro f
    unfold shw
    split
    · have := ih (yF m f); omega
    · omega
def alw : Nat → Row → Nat
  | 0, _ => 0
  | k + 1, f => if msk f (nn f) = 0 then 0 else 1 + alw k (yF 255 f)
theorem alw_le : ∀ k f, alw k f ≤ k := by
  intro k
  induction k with
  | zero => intro f; exact Nat.le_refl _
  | succ k ih =>
    intro f
    unfold alw
    split
    · omega
    · have := ih (yF 255 f); omega
theorem row_step (σ : Store) (a b k : Nat) : s_up (s_row σ b (fun j => if j < k then σ a j else σ b j)) b k (σ a k) = s_row σ b (fun j => if j < k + 1 then σ a j else σ b j) := by
  funext c
  unfold s_up s_row
  by_cases h : c = b
  · subst h
    simp only [↓reduceIte]
    funext j
    unfold upd
    by_cases h1 : j = k
    · subst h1; simp
    · have : (j < k + 1) = (j < k) := by simp; omega
      simp [h1, this]
  · simp [h]
theorem row_start (σ : Store) (a b : Nat) : σ = s_row σ b (fun j => if j < 0 then σ a j else σ b j) := by
  funext c
  unfold s_row
  by_cases h : c = b
  · subst h; simp
  · simp [h]
theorem row_eqv {Λ : Lay} {σ : Store} {a b n : Nat} (h : Λ[b]? = some (.inl (false, n))) : Eqv Λ (s_row σ b (fun j => if j < n then σ a j else σ b j)) (s_row σ b (σ a)) := by
  intro k sh hk j hj
  unfold s_row
  by_cases e : k = b
  · subst e
    rw [h] at hk
    cases hk
    simp only [↓reduceIte]
    exact if_pos hj
  · simp [e]
theorem mS_aside (σ : Store) (f b : Row) : s_row (mS σ f b) 3 f = mS (s_row σ 3 f) f b := by
  funext k
  unfold mS s_row
  by_cases h : k = 3
  · subst h; rfl
  · simp [h]
theorem mS_back (σ : Store) (f g b : Row) : s_row (mS (s_row σ 3 f) g b) 1 f = mS (s_row σ 3 f) f b := by
  funext k
  unfold mS s_row
  by_cases h : k = 1
  · subst h; rfl
  · simp [h]
set_option maxRecDepth 20000 in
theorem m_copy_1_3_lp {X : CX} {σ : Store} : ∀ (b9 k : Nat), k ≤ 67 → 67 - k < b9 → Rt (ΛM, mt_Md_copyRow, 0) (PU (s_row σ 3 (fun j => if j < 67 then σ 1 j else σ 3 j))) X → G (ΛM, mt_Md_copyRow, 0) X (s_row σ 3 (fun j => if j < k then σ 1 j else σ 3 j)) [some (.ref 1), some (.ref 3), some (.int (nI k))] [] 2 := by
  intro b9
  induction b9 with
  | zero => intro k hk hb hR; omega
  | succ b9 ih =>
  intro k hk hb hR
  refine g_iload_n (by decide +kernel : decode prog_10_method_8_code 2 = .ok (.iload_n 2, 1)) rfl ?_
  refine g_bipush (v := nI 67) (by decide +kernel : decode prog_10_method_8_code 3 = .ok (.bipush 67, 2)) (by decide) ?_
  refine g_icmp_geN (tgt := 20) (by decide +kernel : decode prog_10_method_8_code 5 = .ok (.if_icmp .ge 15, 3)) (by decide) (by omega) (by decide) (fun h5 => ?_) (fun h5 => ?_)
  · exact g_vret hR (by decide +kernel : decode prog_10_method_8_code 20 = .ok (.return_, 1)) rfl ⟨rfl, by rw [show k = 67 by omega]⟩
  · refine g_aload_n (by decide +kernel : decode prog_10_method_8_code 8 = .ok (.aload_n 1, 1)) rfl ?_
    refine g_iload_n (by decide +kernel : decode prog_10_method_8_code 9 = .ok (.iload_n 2, 1)) rfl ?_
    refine g_aload_n (by decide +kernel : decode prog_10_method_8_code 10 = .ok (.aload_n 0, 1)) rfl ?_
    refine g_iload_n (by decide +kernel : decode prog_10_method_8_code 11 = .ok (.iload_n 2, 1)) rfl ?_
    refine g_iaload (a := k) (by decide +kernel : decode prog_10_method_8_code 12 = .ok (.iaload, 1)) rfl rfl (by omega) (by decide) ?_
    refine g_top (w := σ 1 k) (rfl) ?_
    refine g_iastore (a := k) (by decide +kernel : decode prog_10_method_8_code 13 = .ok (.iastore, 1)) rfl rfl (by omega) (by decide) ?_
    refine g_iincN (n := 1) (L' := [some (.ref 1), some (.ref 3), some (.int (nI (k + 1)))]) (by decide +kernel : decode prog_10_method_8_code 14 = .ok (.iinc 2 1, 3)) rfl (by decide) (Nat.le_of_ble_eq_true rfl) rfl ?_
    refine g_goto (tgt := 2) (by decide +kernel : decode prog_10_method_8_code 17 = .ok (.goto (-15), 3)) (by decide) ?_
    refine g_sto (σ' := s_row σ 3 (fun j => if j < k + 1 then σ 1 j else σ 3 j)) (row_step σ 1 3 k) ?_
    exact ih (k + 1) (by omega) (by omega) hR
set_option maxRecDepth 20000 in
theorem m_copy_1_3 (σ : Store) : Ct ΛM mt_Md_copyRow 0 [.ref 1, .ref 3] σ (PU (s_row σ 3 (fun j => if j < 67 then σ 1 j else σ 3 j))) := by
  refine Ct.of (by decide) (Nat.le_of_ble_eq_true rfl) (fun X hR => ?_)
  show G (ΛM, mt_Md_copyRow, 0) X σ [some (.ref 1), some (.ref 3), none] [] 0
  refine g_iconst (v := nI 0) (by decide +kernel : decode prog_10_method_8_code 0 = .ok (.iconst 0, 1)) (by decide) ?_
  refine g_istore_n (L' := [some (.ref 1), some (.ref 3), some (.int (nI 0))]) (by decide +kernel : decode prog_10_method_8_code 1 = .ok (.istore_n 2, 1)) (Nat.le_of_ble_eq_true rfl) rfl ?_
  refine g_sto (σ' := s_row σ 3 (fun j => if j < 0 then σ 1 j else σ 3 j)) (row_start σ 1 3) ?_
  exact m_copy_1_3_lp 68 0 (by omega) (by omega) hR
theorem m_cp_1_3 (σ : Store) : Ct ΛM mt_Md_copyRow 0 [.ref 1, .ref 3] σ (PU (s_row σ 3 (σ 1))) := by
  refine (m_copy_1_3 σ).eqvP ?_
  rintro v τ ⟨h1, h2⟩
  exact ⟨_, h2 ▸ row_eqv (a := 1) rfl, h1, rfl⟩
set_option maxRecDepth 20000 in
theorem m_copy_3_1_lp {X : CX} {σ : Store} : ∀ (b9 k : Nat), k ≤ 67 → 67 - k < b9 → Rt (ΛM, mt_Md_copyRow, 0) (PU (s_row σ 1 (fun j => if j < 67 then σ 3 j else σ 1 j))) X → G (ΛM, mt_Md_copyRow, 0) X (s_row σ 1 (fun j => if j < k then σ 3 j else σ 1 j)) [some (.ref 3), some (.ref 1), some (.int (nI k))] [] 2 := by
  intro b9
  induction b9 with
  | zero => intro k hk hb hR; omega
  | succ b9 ih =>
  intro k hk hb hR
  refine g_iload_n (by decide +kernel : decode prog_10_method_8_code 2 = .ok (.iload_n 2, 1)) rfl ?_
  refine g_bipush (v := nI 67) (by decide +kernel : decode prog_10_method_8_code 3 = .ok (.bipush 67, 2)) (by decide) ?_
  refine g_icmp_geN (tgt := 20) (by decide +kernel : decode prog_10_method_8_code 5 = .ok (.if_icmp .ge 15, 3)) (by decide) (by omega) (by decide) (fun h5 => ?_) (fun h5 => ?_)
  · exact g_vret hR (by decide +kernel : decode prog_10_method_8_code 20 = .ok (.return_, 1)) rfl ⟨rfl, by rw [show k = 67 by omega]⟩
  · refine g_aload_n (by decide +kernel : decode prog_10_method_8_code 8 = .ok (.aload_n 1, 1)) rfl ?_
    refine g_iload_n (by decide +kernel : decode prog_10_method_8_code 9 = .ok (.iload_n 2, 1)) rfl ?_
    refine g_aload_n (by decide +kernel : decode prog_10_method_8_code 10 = .ok (.aload_n 0, 1)) rfl ?_
    refine g_iload_n (by decide +kernel : decode prog_10_method_8_code 11 = .ok (.iload_n 2, 1)) rfl ?_
    refine g_iaload (a := k) (by decide +kernel : decode prog_10_method_8_code 12 = .ok (.iaload, 1)) rfl rfl (by omega) (by decide) ?_
    refine g_top (w := σ 3 k) (rfl) ?_
    refine g_iastore (a := k) (by decide +kernel : decode prog_10_method_8_code 13 = .ok (.iastore, 1)) rfl rfl (by omega) (by decide) ?_
    refine g_iincN (n := 1) (L' := [some (.ref 3), some (.ref 1), some (.int (nI (k + 1)))]) (by decide +kernel : decode prog_10_method_8_code 14 = .ok (.iinc 2 1, 3)) rfl (by decide) (Nat.le_of_ble_eq_true rfl) rfl ?_
    refine g_goto (tgt := 2) (by decide +kernel : decode prog_10_method_8_code 17 = .ok (.goto (-15), 3)) (by decide) ?_
    refine g_sto (σ' := s_row σ 1 (fun j => if j < k + 1 then σ 3 j else σ 1 j)) (row_step σ 3 1 k) ?_
    exact ih (k + 1) (by omega) (by omega) hR
set_option maxRecDepth 20000 in
theorem m_copy_3_1 (σ : Store) : Ct ΛM mt_Md_copyRow 0 [.ref 3, .ref 1] σ (PU (s_row σ 1 (fun j => if j < 67 then σ 3 j else σ 1 j))) := by
  refine Ct.of (by decide) (Nat.le_of_ble_eq_true rfl) (fun X hR => ?_)
  show G (ΛM, mt_Md_copyRow, 0) X σ [some (.ref 3), some (.ref 1), none] [] 0
  refine g_iconst (v := nI 0) (by decide +kernel : decode prog_10_method_8_code 0 = .ok (.iconst 0, 1)) (by decide) ?_
  refine g_istore_n (L' := [some (.ref 3), some (.ref 1), some (.int (nI 0))]) (by decide +kernel : decode prog_10_method_8_code 1 = .ok (.istore_n 2, 1)) (Nat.le_of_ble_eq_true rfl) rfl ?_
  refine g_sto (σ' := s_row σ 1 (fun j => if j < 0 then σ 3 j else σ 1 j)) (row_start σ 3 1) ?_
  exact m_copy_3_1_lp 68 0 (by omega) (by omega) hR
theorem m_cp_3_1 (σ : Store) : Ct ΛM mt_Md_copyRow 0 [.ref 3, .ref 1] σ (PU (s_row σ 1 (σ 3))) := by
  refine (m_copy_3_1 σ).eqvP ?_
  rintro v τ ⟨h1, h2⟩
  exact ⟨_, h2 ▸ row_eqv (a := 3) rfl, h1, rfl⟩
set_option maxRecDepth 20000 in
theorem m_copy_1_4_lp {X : CX} {σ : Store} : ∀ (b9 k : Nat), k ≤ 67 → 67 - k < b9 → Rt (ΛM, mt_Md_copyRow, 0) (PU (s_row σ 4 (fun j => if j < 67 then σ 1 j else σ 4 j))) X → G (ΛM, mt_Md_copyRow, 0) X (s_row σ 4 (fun j => if j < k then σ 1 j else σ 4 j)) [some (.ref 1), some (.ref 4), some (.int (nI k))] [] 2 := by
  intro b9
  induction b9 with
  | zero => intro k hk hb hR; omega
  | succ b9 ih =>
  intro k hk hb hR
  refine g_iload_n (by decide +kernel : decode prog_10_method_8_code 2 = .ok (.iload_n 2, 1)) rfl ?_
  refine g_bipush (v := nI 67) (by decide +kernel : decode prog_10_method_8_code 3 = .ok (.bipush 67, 2)) (by decide) ?_
  refine g_icmp_geN (tgt := 20) (by decide +kernel : decode prog_10_method_8_code 5 = .ok (.if_icmp .ge 15, 3)) (by decide) (by omega) (by decide) (fun h5 => ?_) (fun h5 => ?_)
  · exact g_vret hR (by decide +kernel : decode prog_10_method_8_code 20 = .ok (.return_, 1)) rfl ⟨rfl, by rw [show k = 67 by omega]⟩
  · refine g_aload_n (by decide +kernel : decode prog_10_method_8_code 8 = .ok (.aload_n 1, 1)) rfl ?_
    refine g_iload_n (by decide +kernel : decode prog_10_method_8_code 9 = .ok (.iload_n 2, 1)) rfl ?_
    refine g_aload_n (by decide +kernel : decode prog_10_method_8_code 10 = .ok (.aload_n 0, 1)) rfl ?_
    refine g_iload_n (by decide +kernel : decode prog_10_method_8_code 11 = .ok (.iload_n 2, 1)) rfl ?_
    refine g_iaload (a := k) (by decide +kernel : decode prog_10_method_8_code 12 = .ok (.iaload, 1)) rfl rfl (by omega) (by decide) ?_
    refine g_top (w := σ 1 k) (rfl) ?_
    refine g_iastore (a := k) (by decide +kernel : decode prog_10_method_8_code 13 = .ok (.iastore, 1)) rfl rfl (by omega) (by decide) ?_
    refine g_iincN (n := 1) (L' := [some (.ref 1), some (.ref 4), some (.int (nI (k + 1)))]) (by decide +kernel : decode prog_10_method_8_code 14 = .ok (.iinc 2 1, 3)) rfl (by decide) (Nat.le_of_ble_eq_true rfl) rfl ?_
    refine g_goto (tgt := 2) (by decide +kernel : decode prog_10_method_8_code 17 = .ok (.goto (-15), 3)) (by decide) ?_
    refine g_sto (σ' := s_row σ 4 (fun j => if j < k + 1 then σ 1 j else σ 4 j)) (row_step σ 1 4 k) ?_
    exact ih (k + 1) (by omega) (by omega) hR
set_option maxRecDepth 20000 in
theorem m_copy_1_4 (σ : Store) : Ct ΛM mt_Md_copyRow 0 [.ref 1, .ref 4] σ (PU (s_row σ 4 (fun j => if j < 67 then σ 1 j else σ 4 j))) := by
  refine Ct.of (by decide) (Nat.le_of_ble_eq_true rfl) (fun X hR => ?_)
  show G (ΛM, mt_Md_copyRow, 0) X σ [some (.ref 1), some (.ref 4), none] [] 0
  refine g_iconst (v := nI 0) (by decide +kernel : decode prog_10_method_8_code 0 = .ok (.iconst 0, 1)) (by decide) ?_
  refine g_istore_n (L' := [some (.ref 1), some (.ref 4), some (.int (nI 0))]) (by decide +kernel : decode prog_10_method_8_code 1 = .ok (.istore_n 2, 1)) (Nat.le_of_ble_eq_true rfl) rfl ?_
  refine g_sto (σ' := s_row σ 4 (fun j => if j < 0 then σ 1 j else σ 4 j)) (row_start σ 1 4) ?_
  exact m_copy_1_4_lp 68 0 (by omega) (by omega) hR
theorem m_cp_1_4 (σ : Store) : Ct ΛM mt_Md_copyRow 0 [.ref 1, .ref 4] σ (PU (s_row σ 4 (σ 1))) := by
  refine (m_copy_1_4 σ).eqvP ?_
  rintro v τ ⟨h1, h2⟩
  exact ⟨_, h2 ▸ row_eqv (a := 1) rfl, h1, rfl⟩
set_option maxRecDepth 20000 in
theorem m_copy_4_1_lp {X : CX} {σ : Store} : ∀ (b9 k : Nat), k ≤ 67 → 67 - k < b9 → Rt (ΛM, mt_Md_copyRow, 0) (PU (s_row σ 1 (fun j => if j < 67 then σ 4 j else σ 1 j))) X → G (ΛM, mt_Md_copyRow, 0) X (s_row σ 1 (fun j => if j < k then σ 4 j else σ 1 j)) [some (.ref 4), some (.ref 1), some (.int (nI k))] [] 2 := by
  intro b9
  induction b9 with
  | zero => intro k hk hb hR; omega
  | succ b9 ih =>
  intro k hk hb hR
  refine g_iload_n (by decide +kernel : decode prog_10_method_8_code 2 = .ok (.iload_n 2, 1)) rfl ?_
  refine g_bipush (v := nI 67) (by decide +kernel : decode prog_10_method_8_code 3 = .ok (.bipush 67, 2)) (by decide) ?_
  refine g_icmp_geN (tgt := 20) (by decide +kernel : decode prog_10_method_8_code 5 = .ok (.if_icmp .ge 15, 3)) (by decide) (by omega) (by decide) (fun h5 => ?_) (fun h5 => ?_)
  · exact g_vret hR (by decide +kernel : decode prog_10_method_8_code 20 = .ok (.return_, 1)) rfl ⟨rfl, by rw [show k = 67 by omega]⟩
  · refine g_aload_n (by decide +kernel : decode prog_10_method_8_code 8 = .ok (.aload_n 1, 1)) rfl ?_
    refine g_iload_n (by decide +kernel : decode prog_10_method_8_code 9 = .ok (.iload_n 2, 1)) rfl ?_
    refine g_aload_n (by decide +kernel : decode prog_10_method_8_code 10 = .ok (.aload_n 0, 1)) rfl ?_
    refine g_iload_n (by decide +kernel : decode prog_10_method_8_code 11 = .ok (.iload_n 2, 1)) rfl ?_
    refine g_iaload (a := k) (by decide +kernel : decode prog_10_method_8_code 12 = .ok (.iaload, 1)) rfl rfl (by omega) (by decide) ?_
    refine g_top (w := σ 4 k) (rfl) ?_
    refine g_iastore (a := k) (by decide +kernel : decode prog_10_method_8_code 13 = .ok (.iastore, 1)) rfl rfl (by omega) (by decide) ?_
    refine g_iincN (n := 1) (L' := [some (.ref 4), some (.ref 1), some (.int (nI (k + 1)))]) (by decide +kernel : decode prog_10_method_8_code 14 = .ok (.iinc 2 1, 3)) rfl (by decide) (Nat.le_of_ble_eq_true rfl) rfl ?_
    refine g_goto (tgt := 2) (by decide +kernel : decode prog_10_method_8_code 17 = .ok (.goto (-15), 3)) (by decide) ?_
    refine g_sto (σ' := s_row σ 1 (fun j => if j < k + 1 then σ 4 j else σ 1 j)) (row_step σ 4 1 k) ?_
    exact ih (k + 1) (by omega) (by omega) hR
set_option maxRecDepth 20000 in
theorem m_copy_4_1 (σ : Store) : Ct ΛM mt_Md_copyRow 0 [.ref 4, .ref 1] σ (PU (s_row σ 1 (fun j => if j < 67 then σ 4 j else σ 1 j))) := by
  refine Ct.of (by decide) (Nat.le_of_ble_eq_true rfl) (fun X hR => ?_)
  show G (ΛM, mt_Md_copyRow, 0) X σ [some (.ref 4), some (.ref 1), none] [] 0
  refine g_iconst (v := nI 0) (by decide +kernel : decode prog_10_method_8_code 0 = .ok (.iconst 0, 1)) (by decide) ?_
  refine g_istore_n (L' := [some (.ref 4), some (.ref 1), some (.int (nI 0))]) (by decide +kernel : decode prog_10_method_8_code 1 = .ok (.istore_n 2, 1)) (Nat.le_of_ble_eq_true rfl) rfl ?_
  refine g_sto (σ' := s_row σ 1 (fun j => if j < 0 then σ 4 j else σ 1 j)) (row_start σ 4 1) ?_
  exact m_copy_4_1_lp 68 0 (by omega) (by omega) hR
theorem m_cp_4_1 (σ : Store) : Ct ΛM mt_Md_copyRow 0 [.ref 4, .ref 1] σ (PU (s_row σ 1 (σ 4))) := by
  refine (m_copy_4_1 σ).eqvP ?_
  rintro v τ ⟨h1, h2⟩
  exact ⟨_, h2 ▸ row_eqv (a := 4) rfl, h1, rfl⟩
theorem m_aside (σ : Store) (f b : Row) : Ct ΛM mt_Md_copyRow 0 [.ref 1, .ref 3] (mS σ f b) (PU (mS (s_row σ 3 f) f b)) := by
  rw [← mS_aside]; exact m_cp_1_3 (mS σ f b)
theorem m_back (σ : Store) (f g b : Row) : Ct ΛM mt_Md_copyRow 0 [.ref 3, .ref 1] (mS (s_row σ 3 f) g b) (PU (mS (s_row σ 3 f) f b)) := by
  rw [← mS_back σ f g b]; exact m_cp_3_1 (mS (s_row σ 3 f) g b)
set_option maxRecDepth 20000 in
theorem m_goes_lp {X : CX} {σ : Store} {f b : Row} (hI : Inv f) {n : Nat} (hn : n < 2 ^ 31) : ∀ (b9 k : Nat), k ≤ n → n - k < b9 → Rt (ΛM, mt_Md_goes, 4) (PU (mS σ (yN 255 f n) (yB 255 f b n))) X → G (ΛM, mt_Md_goes, 4) X (mS σ (yN 255 f k) (yB 255 f b k)) [some (.ref 0), some (.int (nI n)), some (.int (nI k))] [] 2 := by
  intro b9
  induction b9 with
  | zero => intro k hk hb hR; omega
  | succ b9 ih =>
  intro k hk hb hR
  refine g_iload_n (by decide +kernel : decode prog_10_method_51_code 2 = .ok (.iload_n 2, 1)) rfl ?_
  refine g_iload_n (by decide +kernel : decode prog_10_method_51_code 3 = .ok (.iload_n 1, 1)) rfl ?_
  refine g_icmp_geN (tgt := 20) (by decide +kernel : decode prog_10_method_51_code 4 = .ok (.if_icmp .ge 16, 3)) (by decide) (by omega) (by omega) (fun h4 => ?_) (fun h4 => ?_)
  · exact g_vret hR (by decide +kernel : decode prog_10_method_51_code 20 = .ok (.return_, 1)) rfl ⟨rfl, by rw [show k = n by omega]⟩
  · refine g_aload_n (by decide +kernel : decode prog_10_method_51_code 7 = .ok (.aload_n 0, 1)) rfl ?_
    refine g_sipush (v := nI 255) (by decide +kernel : decode prog_10_method_51_code 8 = .ok (.sipush 255, 3)) (by decide) ?_
    refine g_callVV [.int (nI 255)] (by decide +kernel : decode prog_10_method_51_code 11 = .ok (.invokevirtual 202, 3)) lk_Md_202 ((m_goesBy σ (yN 255 f k) (yB 255 f b k) (yN_inv hI k).1 255 (by omega))) rfl rfl rfl rfl (Nat.le_of_ble_eq_true rfl) (Nat.le_of_ble_eq_true rfl) (fun s11 h11 => ?_)
    obtain rfl := h11
    refine g_sto (σ' := mS σ (yN 255 f (k + 1)) (yB 255 f b (k + 1))) (by rw [yr_1]; rfl) ?_
    refine g_iincN (n := 1) (L' := [some (.ref 0), some (.int (nI n)), some (.int (nI (k + 1)))]) (by decide +kernel : decode prog_10_method_51_code 14 = .ok (.iinc 2 1, 3)) rfl (by decide) (Nat.le_of_ble_eq_true rfl) rfl ?_
    refine g_goto (tgt := 2) (by decide +kernel : decode prog_10_method_51_code 17 = .ok (.goto (-15), 3)) (by decide) ?_
    exact ih (k + 1) (by omega) (by omega) hR
set_option maxRecDepth 20000 in
theorem m_goes (σ : Store) (f b : Row) (hI : Inv f) (n : Nat) (hn : n < 2 ^ 31) : Ct ΛM mt_Md_goes 4 [.ref 0, .int (nI n)] (mS σ f b) (PU (mS σ (yN 255 f n) (yB 255 f b n))) := by
  refine Ct.of (by decide) (Nat.le_of_ble_eq_true rfl) (fun X hR => ?_)
  show G (ΛM, mt_Md_goes, 4) X (mS σ f b) [some (.ref 0), some (.int (nI n)), none] [] 0
  refine g_iconst (v := nI 0) (by decide +kernel : decode prog_10_method_51_code 0 = .ok (.iconst 0, 1)) (by decide) ?_
  refine g_istore_n (L' := [some (.ref 0), some (.int (nI n)), some (.int (nI 0))]) (by decide +kernel : decode prog_10_method_51_code 1 = .ok (.istore_n 2, 1)) (Nat.le_of_ble_eq_true rfl) rfl ?_
  exact m_goes_lp (b := b) hI hn (n + 1) 0 (Nat.zero_le _) (by omega) hR
theorem shw_out {m o : Nat} {f : Row} : ∀ (j k : Nat), (∀ i, i < k → (yN m f i) (19 + 6 * o + 4) = nI 1) → k ≤ j → shw m o j f = k + shw m o (j - k) (yN m f k) := by
  intro j k
  induction k with
  | zero => intro _ _; simp [yN]
  | succ k ih =>
    intro h hk
    rw [ih (fun i hi => h i (by omega)) (by omega)]
    rw [show j - k = (j - (k + 1)) + 1 by omega]
    show k + (if _ then _ else _) = _
    rw [if_pos (h k (by omega))]
    show k + (1 + shw m o (j - (k + 1)) (yF m (yN m f k))) = _
    show _ = k + 1 + shw m o (j - (k + 1)) (yF m (yN m f k))
    omega
theorem shw_stop {m o : Nat} {f : Row} {j k : Nat} (h : ∀ i, i < k → (yN m f i) (19 + 6 * o + 4) = nI 1) (hk : k ≤ j) (he : k = j ∨ ¬ (yN m f k) (19 + 6 * o + 4) = nI 1) : shw m o j f = k := by
  rw [shw_out j k h hk]
  rcases he with rfl | he
  · rw [Nat.sub_self]; rfl
  · cases hj : j - k with
    | zero => rfl
    | succ q =>
      show k + (if _ then _ else _) = _
      rw [if_neg he]
      rfl
set_option maxRecDepth 20000 in
theorem m_shownBy_lp {X : CX} {σ : Store} {f b : Row} (hI : Inv f) {o : Nat} (ho : o < nn f) {m : Nat} (hm : m < 256) : ∀ (b9 k : Nat), k ≤ 61 → 61 - k < b9 → (∀ i, i < k → (yN m f i) (19 + 6 * o + 4) = nI 1) → Rt (ΛM, mt_Md_shownBy, 4) (PI (fun r σ' => r = nI (shw m o 61 f) ∧ σ' = mS (s_row σ 3 f) f (yB m f b (shw m o 61 f)))) X → G (ΛM, mt_Md_shownBy, 4) X (mS (s_row σ 3 f) (yN m f k) (yB m f b k)) [some (.ref 0), some (.int (nI o)), some (.int (nI m)), some (.int (nI k))] [] 13 := by
  have hn8 := hI.n.2
  intro b9
  induction b9 with
  | zero => intro k hk hb hh hR; omega
  | succ b9 ih =>
  intro k hk hb hh hR
  refine g_iload_n (by decide +kernel : decode prog_10_method_62_code 13 = .ok (.iload_n 3, 1)) rfl ?_
  refine g_bipush (v := nI 60) (by decide +kernel : decode prog_10_method_62_code 14 = .ok (.bipush 60, 2)) (by decide) ?_
  refine g_icmp_gtN (tgt := 40) (by decide +kernel : decode prog_10_method_62_code 16 = .ok (.if_icmp .gt 24, 3)) (by decide) (by omega) (by decide) (fun h16 => ?_) (fun h16 => ?_)
  · refine g_aload_n (by decide +kernel : decode prog_10_method_62_code 40 = .ok (.aload_n 0, 1)) rfl ?_
    refine g_getR (by decide +kernel : decode prog_10_method_62_code 41 = .ok (.getfield 16, 3)) fl_Md_16 rfl rfl ?_
    refine g_aload_n (by decide +kernel : decode prog_10_method_62_code 44 = .ok (.aload_n 0, 1)) rfl ?_
    refine g_getR (by decide +kernel : decode prog_10_method_62_code 45 = .ok (.getfield 7, 3)) fl_Md_7 rfl rfl ?_
    refine g_callSV [.ref 3, .ref 1] (by decide +kernel : decode prog_10_method_62_code 48 = .ok (.invokestatic 141, 3)) lk_Md_141 (m_back σ f (yN m f k) (yB m f b k)) rfl rfl (Nat.le_of_ble_eq_true rfl) (Nat.le_of_ble_eq_true rfl) (fun s48 h48 => ?_)
    obtain rfl := h48
    refine g_iload_n (by decide +kernel : decode prog_10_method_62_code 51 = .ok (.iload_n 3, 1)) rfl ?_
    exact g_iret hR (by decide +kernel : decode prog_10_method_62_code 52 = .ok (.ireturn, 1)) rfl ⟨_, rfl, by rw [shw_stop hh hk (Or.inl (by omega))]; exact ⟨rfl, rfl⟩⟩
  · refine g_aload_n (by decide +kernel : decode prog_10_method_62_code 19 = .ok (.aload_n 0, 1)) rfl ?_
    refine g_iload_n (by decide +kernel : decode prog_10_method_62_code 20 = .ok (.iload_n 1, 1)) rfl ?_
    refine g_iconst (v := nI 4) (by decide +kernel : decode prog_10_method_62_code 21 = .ok (.iconst 4, 1)) (by decide) ?_
    refine g_callVI [.int (nI o), .int (nI 4)] (by decide +kernel : decode prog_10_method_62_code 22 = .ok (.invokevirtual 169, 3)) lk_Md_169 (m_its (mS (s_row σ 3 f) (yN m f k) (yB m f b k)) o 4 (v := yN m f k (19 + 6 * o + 4)) rfl (by omega)) rfl rfl rfl rfl (Nat.le_of_ble_eq_true rfl) (Nat.le_of_ble_eq_true rfl) (fun r22 s22 h22 => ?_)
    obtain ⟨rfl, rfl⟩ := h22
    refine g_iconst (v := nI 1) (by decide +kernel : decode prog_10_method_62_code 25 = .ok (.iconst 1, 1)) (by decide) ?_
    refine g_icmp_ne (tgt := 40) (by decide +kernel : decode prog_10_method_62_code 26 = .ok (.if_icmp .ne 14, 3)) (by decide) (fun h26 => ?_) (fun h26 => ?_)
    · refine g_aload_n (by decide +kernel : decode prog_10_method_62_code 40 = .ok (.aload_n 0, 1)) rfl ?_
      refine g_getR (by decide +kernel : decode prog_10_method_62_code 41 = .ok (.getfield 16, 3)) fl_Md_16 rfl rfl ?_
      refine g_aload_n (by decide +kernel : decode prog_10_method_62_code 44 = .ok (.aload_n 0, 1)) rfl ?_
      refine g_getR (by decide +kernel : decode prog_10_method_62_code 45 = .ok (.getfield 7, 3)) fl_Md_7 rfl rfl ?_
      refine g_callSV [.ref 3, .ref 1] (by decide +kernel : decode prog_10_method_62_code 48 = .ok (.invokestatic 141, 3)) lk_Md_141 (m_back σ f (yN m f k) (yB m f b k)) rfl rfl (Nat.le_of_ble_eq_true rfl) (Nat.le_of_ble_eq_true rfl) (fun s48 h48 => ?_)
      obtain rfl := h48
      refine g_iload_n (by decide +kernel : decode prog_10_method_62_code 51 = .ok (.iload_n 3, 1)) rfl ?_
      exact g_iret hR (by decide +kernel : decode prog_10_method_62_code 52 = .ok (.ireturn, 1)) rfl ⟨_, rfl, by rw [shw_stop hh hk (Or.inr h26)]; exact ⟨rfl, rfl⟩⟩
    · refine g_aload_n (by decide +kernel : decode prog_10_method_62_code 29 = .ok (.aload_n 0, 1)) rfl ?_
      refine g_iload_n (by decide +kernel : decode prog_10_method_62_code 30 = .ok (.iload_n 2, 1)) rfl ?_
      refine g_callVV [.int (nI m)] (by decide +kernel : decode prog_10_method_62_code 31 = .ok (.invokevirtual 202, 3)) lk_Md_202 ((m_goesBy (s_row σ 3 f) (yN m f k) (yB m f b k) (yN_inv hI k).1 m (by omega))) rfl rfl rfl rfl (Nat.le_of_ble_eq_true rfl) (Nat.le_of_ble_eq_true rfl) (fun s31 h31 => ?_)
      obtain rfl := h31
      refine g_sto (σ' := mS (s_row σ 3 f) (yN m f (k + 1)) (yB m f b (k + 1))) (by rw [yr_1]; rfl) ?_
      refine g_iincN (n := 1) (L' := [some (.ref 0), some (.int (nI o)), some (.int (nI m)), some (.int (nI (k + 1)))]) (by decide +kernel : decode prog_10_method_62_code 34 = .ok (.iinc 3 1, 3)) rfl (by decide) (Nat.le_of_ble_eq_true rfl) rfl ?_
      refine g_goto (tgt := 13) (by decide +kernel : decode prog_10_method_62_code 37 = .ok (.goto (-24), 3)) (by decide) ?_
      exact ih (k + 1) (by omega) (by omega) (fun i hi => by
          rcases (show i < k ∨ i = k by omega) with q | q
          · exact hh i q
          · rw [q]; exact h26) hR
set_option maxRecDepth 20000 in
theorem m_shownBy (σ : Store) (f b : Row) (hI : Inv f) (o : Nat) (ho : o < nn f) (m : Nat) (hm : m < 256) : Ct ΛM mt_Md_shownBy 4 [.ref 0, .int (nI o), .int (nI m)] (mS σ f b) (PI (fun r σ' => r = nI (shw m o 61 f) ∧ σ' = mS (s_row σ 3 f) f (yB m f b (shw m o 61 f)))) := by
  refine Ct.of (by decide) (Nat.le_of_ble_eq_true rfl) (fun X hR => ?_)
  show G (ΛM, mt_Md_shownBy, 4) X (mS σ f b) [some (.ref 0), some (.int (nI o)), some (.int (nI m)), none] [] 0
  refine g_aload_n (by decide +kernel : decode prog_10_method_62_code 0 = .ok (.aload_n 0, 1)) rfl ?_
  refine g_getR (by decide +kernel : decode prog_10_method_62_code 1 = .ok (.getfield 7, 3)) fl_Md_7 rfl rfl ?_
  refine g_aload_n (by decide +kernel : decode prog_10_method_62_code 4 = .ok (.aload_n 0, 1)) rfl ?_
  refine g_getR (by decide +kernel : decode prog_10_method_62_code 5 = .ok (.getfield 16, 3)) fl_Md_16 rfl rfl ?_
  refine g_callSV [.ref 1, .ref 3] (by decide +kernel : decode prog_10_method_62_code 8 = .ok (.invokestatic 141, 3)) lk_Md_141 (m_aside σ f b) rfl rfl (Nat.le_of_ble_eq_true rfl) (Nat.le_of_ble_eq_true rfl) (fun s8 h8 => ?_)
  obtain rfl := h8
  refine g_iconst (v := nI 0) (by decide +kernel : decode prog_10_method_62_code 11 = .ok (.iconst 0, 1)) (by decide) ?_
  refine g_istore_n (L' := [some (.ref 0), some (.int (nI o)), some (.int (nI m)), some (.int (nI 0))]) (by decide +kernel : decode prog_10_method_62_code 12 = .ok (.istore_n 3, 1)) (Nat.le_of_ble_eq_true rfl) rfl ?_
  exact m_shownBy_lp hI ho hm 62 0 (by omega) (by omega) (fun i hi => absurd hi (Nat.not_lt_zero i)) hR
