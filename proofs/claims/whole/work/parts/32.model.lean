/-! THE REFERENCE: an item of the text, the text, park -/
theorem adm_0 {f : Row} {k a w p h : Nat} : adm f k a w p h 0 = nI (nn f + 1) := upd_s
theorem adm_p {f : Row} {k a w p h : Nat} {o : Nat} (ho : o < nn f) {i : Nat} (hi : i < 6) : adm f k a w p h (19 + 6 * o + i) = f (19 + 6 * o + i) := by
  unfold adm
  simp (disch := omega) only [upd_n]
theorem adm_r {f : Row} {k a w p h : Nat} {j : Nat} (h0 : j ≠ 0) (hj : j < 19 ∨ 19 + 6 * nn f + 5 < j) : adm f k a w p h j = f j := by
  unfold adm
  simp (disch := omega) only [upd_n]
theorem adm_n {f : Row} {k a w p h : Nat} : adm f k a w p h (19 + 6 * nn f + 0) = nI k ∧ adm f k a w p h (19 + 6 * nn f + 1) = nI a ∧ adm f k a w p h (19 + 6 * nn f + 2) = nI w ∧ adm f k a w p h (19 + 6 * nn f + 3) = nI p ∧ adm f k a w p h (19 + 6 * nn f + 4) = nI h ∧ adm f k a w p h (19 + 6 * nn f + 5) = nI 0 := by
  unfold adm upd
  refine ⟨?_, ?_, ?_, ?_, ?_, ?_⟩ <;> simp
theorem adm_nn {f : Row} {k a w p h : Nat} (hn : nn f < 8) : nn (adm f k a w p h) = nn f + 1 := by
  show tn (adm f k a w p h 0) = _
  rw [adm_0, tn_nI (by omega)]
theorem adm_inv {f : Row} (hI : Inv f) {k a w p h : Nat} (hn : nn f < 8) (hk : k ≤ 5) (ha : a ≤ 99) (hw : w ≤ 9) (hp : p ≤ 11) (hh : h ≤ 1) : Inv (adm f k a w p h) := by
  refine ⟨by rw [adm_0]; exact Rng.of (by omega), fun o ho i hi => ?_, fun i hi => by rw [adm_r (by omega) (by omega)]; exact hI.2.2.1 i hi, fun p hp => by rw [adm_r (by omega) (by omega)]; exact hI.2.2.2 p hp⟩
  rw [adm_nn hn] at ho
  by_cases e : o = nn f
  · subst e
    obtain ⟨e0, e1, e2, e3, e4, e5⟩ := adm_n (f := f) (k := k) (a := a) (w := w) (p := p) (h := h)
    rcases (show i = 0 ∨ i = 1 ∨ i = 2 ∨ i = 3 ∨ i = 4 ∨ i = 5 by omega) with rfl | rfl | rfl | rfl | rfl | rfl
    · rw [e0]; exact Rng.of hk
    · rw [e1]; exact Rng.of ha
    · rw [e2]; exact Rng.of hw
    · rw [e3]; exact Rng.of hp
    · rw [e4]; exact Rng.of hh
    · rw [e5]; exact Rng.of (Nat.zero_le _)
  · rw [adm_p (by omega) hi]; exact hI.2.1 o (by omega) i hi
theorem adm_Z {f : Row} (hZ : Zf f) {k a w p h : Nat} (hn : nn f < 8) : Zf (adm f k a w p h) := by
  intro j h1 h2
  rw [adm_nn hn] at h1
  rw [adm_r (by omega) (by omega)]
  exact hZ j (by omega) h2
theorem upd_Z {f : Row} (hZ : Zf f) {j : Nat} {v : Int32} (h0 : j ≠ 0) (hj : j < 19) : Zf (upd f j v) := by
  intro i h1 h2
  rw [nn_up h0] at h1
  rw [upd_n (by omega)]
  exact hZ i h1 h2
/-- what a piece of the text leaves -/
def okR (t : Nat) (q : Nat) : PR → Prop
  | .inl _ => True
  | .inr r => q < r.1 ∧ r.1 ≤ t ∧ Inv r.2 ∧ Zf r.2
theorem okR_le {t q q' : Nat} {r : PR} (h : okR t q' r) (hq : q ≤ q') : okR t q r := by
  cases r with
  | inl e => trivial
  | inr r => exact ⟨by have := h.1; omega, h.2⟩
theorem seK_ok {B : Nat → Nat} {t : Nat} {f : Row} (hI : Inv f) (hZ : Zf f) (hn : nn f < 8) {k a w p : Nat} (hk : k ≤ 5) (ha : a ≤ 99) (hw : w ≤ 9) (hp : p ≤ 11) {q0 q : Nat} (h0 : q0 < q) (hq : q ≤ t) : okR t q0 (seK B t f k a w p q) := by
  have hx := nx_b (B := B) hq
  unfold seK
  split
  · exact ⟨by show q0 < nx B t q; omega, hx.2.1, adm_inv hI hn hk ha hw hp (by decide), adm_Z hZ hn⟩
  · exact ⟨h0, hq, adm_inv hI hn hk ha hw hp (by decide), adm_Z hZ hn⟩
theorem wtK_ok {B : Nat → Nat} {t : Nat} {f : Row} (hI : Inv f) (hZ : Zf f) (hn : nn f < 8) {k a p : Nat} (hk : k ≤ 5) (ha : a ≤ 99) (hp : p ≤ 11) {q0 q : Nat} (h0 : q0 < q) (hq : q ≤ t) : okR t q0 (wtK B t f k a p q) := by
  have hx := nx_b (B := B) hq
  have hy := nx_b (B := B) hx.2.1
  unfold wtK
  split
  · split
    · rename_i h; exact seK_ok hI hZ hn hk ha h.2.2 hp (by omega) (by omega)
    · trivial
  · exact seK_ok hI hZ hn hk ha (by decide) hp h0 hq
theorem agK_ok {B : Nat → Nat} {t : Nat} {f : Row} (hI : Inv f) (hZ : Zf f) (hn : nn f < 8) {k p : Nat} (hk : k ≤ 5) (hp : p ≤ 11) {q0 q : Nat} (h0 : q0 < q) (hq : q ≤ t) : okR t q0 (agK B t f k p q) := by
  have hx := nx_b (B := B) hq
  have hy := nx_b (B := B) hx.2.1
  unfold agK
  split
  · split
    · rename_i h; exact wtK_ok hI hZ hn hk h.2.2 hp (by omega) (by omega)
    · trivial
  · exact wtK_ok hI hZ hn hk (by decide) hp h0 hq
theorem peK_ok {B : Nat → Nat} {t : Nat} {f : Row} (hI : Inv f) (hZ : Zf f) {k : Nat} (hk : k ≤ 5) {q : Nat} (hq : q ≤ t) (h0 : kd B t q ≠ 0) : okR t q (peK B t f k q) := by
  have hx := nx_b (B := B) hq
  have hy := nx_b (B := B) hx.2.1
  have hz := nx_b (B := B) hy.2.1
  have h1 := hx.2.2 h0
  unfold peK atK
  split
  · rename_i hn
    split
    · split
      · rename_i h; exact agK_ok hI hZ hn hk h.2.2 (by omega) (by omega)
      · trivial
    · trivial
  · trivial
theorem laK_ok {B : Nat → Nat} {t : Nat} {f : Row} (hI : Inv f) (hZ : Zf f) {i : Nat} (hi : i < 4) {q : Nat} (hq : q ≤ t) (h0 : kd B t q ≠ 0) : okR t q (laK B t f i q) := by
  have hx := nx_b (B := B) hq
  have hy := nx_b (B := B) hx.2.1
  have h1 := hx.2.2 h0
  unfold laK
  split
  · rename_i h; exact ⟨by show q < nx B t (nx B t q); omega, hy.2.1, hI.law hi (Rng.of h.2.2), upd_Z hZ (by omega) (by omega)⟩
  · trivial
theorem coK_ok {B : Nat → Nat} {t : Nat} {f : Row} (hI : Inv f) (hZ : Zf f) {q : Nat} (hq : q ≤ t) (h0 : kd B t q ≠ 0) : okR t q (coK B t f q) := by
  have hx := nx_b (B := B) hq
  have hy := nx_b (B := B) hx.2.1
  have hz := nx_b (B := B) hy.2.1
  have hw := nx_b (B := B) hz.2.1
  have h1 := hx.2.2 h0
  unfold coK cvK
  split
  · rename_i hp
    split
    · split
      · rename_i h; exact ⟨by show q < nx B t (nx B t (nx B t (nx B t q))); omega, hw.2.1, hI.cov (by have := hp.2.2; omega) (Rng.of h.2.2), upd_Z hZ (by omega) (by have := hp.2.2; omega)⟩
      · trivial
    · trivial
  · trivial
theorem kdW_c (B : Nat → Nat) (t q : Nat) : kdW B t q = none ∨ ∃ k, k ≤ 5 ∧ kdW B t q = some k := by
  unfold kdW
  repeat' split
  · exact Or.inr ⟨0, by decide, rfl⟩
  · exact Or.inr ⟨1, by decide, rfl⟩
  · exact Or.inr ⟨2, by decide, rfl⟩
  · exact Or.inr ⟨3, by decide, rfl⟩
  · exact Or.inr ⟨4, by decide, rfl⟩
  · exact Or.inr ⟨5, by decide, rfl⟩
  · exact Or.inl rfl
theorem lwW_c (B : Nat → Nat) (t q : Nat) : lwW B t q = none ∨ lwW B t q = some 0 ∨ lwW B t q = some 1 ∨ lwW B t q = some 2 ∨ lwW B t q = some 3 := by
  unfold lwW
  repeat' split
  · exact Or.inr (Or.inl rfl)
  · exact Or.inr (Or.inr (Or.inl rfl))
  · exact Or.inr (Or.inr (Or.inr (Or.inl rfl)))
  · exact Or.inr (Or.inr (Or.inr (Or.inr rfl)))
  · exact Or.inl rfl
theorem itm_ok {B : Nat → Nat} {t : Nat} {f : Row} (hI : Inv f) (hZ : Zf f) {q : Nat} (hq : q ≤ t) (h0 : kd B t q ≠ 0) : okR t q (itm B t f q) := by
  have hb : okR t q (beK B t f q) := by
    unfold beK
    rcases kdW_c B t q with hk | ⟨k, hk5, hk⟩
    · rw [hk]
      dsimp only
      rcases lwW_c B t q with hl | hl | hl | hl | hl
      · rw [hl]
        dsimp only
        split
        · exact coK_ok hI hZ hq h0
        · trivial
      · rw [hl]; exact laK_ok hI hZ (by decide) hq h0
      · rw [hl]; exact laK_ok hI hZ (by decide) hq h0
      · rw [hl]; exact laK_ok hI hZ (by decide) hq h0
      · rw [hl]; exact laK_ok hI hZ (by decide) hq h0
    · rw [hk]; exact peK_ok hI hZ hk5 hq h0
  unfold itm
  revert hb
  cases beK B t f q with
  | inl e => intro _; trivial
  | inr r =>
    intro hb
    have hx := nx_b (B := B) hb.2.1
    unfold stK
    dsimp only
    split
    · exact ⟨by show q < nx B t r.1; have := hb.1; omega, hx.2.1, hb.2.2⟩
    · trivial
set_option maxRecDepth 20000 in
theorem m_coverHere (σ : Store) (f b : Row) {t : Nat} (hT : TP σ t) {q : Nat} (hq : q ≤ t) : Ct ΛM mt_Md_coverHere 4 [.ref 0] (mS (kS σ (nI (kd (Bt σ) t q)) (nI q) (nI (en (Bt σ) t q)) (nI (vl (Bt σ) t q)) (nI 0)) f b) (PV (PK σ t b (coK (Bt σ) t f q))) := by
  refine Ct.of (by decide) (Nat.le_of_ble_eq_true rfl) (fun X hR => ?_)
  show G (ΛM, mt_Md_coverHere, 4) X (mS (kS σ (nI (kd (Bt σ) t q)) (nI q) (nI (en (Bt σ) t q)) (nI (vl (Bt σ) t q)) (nI 0)) f b) [some (.ref 0), none] [] 0
  have h200 := hT.2.1
  have hen := en_b (B := Bt σ) hq
  have hvl := vl_b (B := Bt σ) (t := t) (q := q)
  have hkd := kd_le (Bt σ) t q
  refine g_aload_n (by decide +kernel : decode prog_10_method_28_code 0 = .ok (.aload_n 0, 1)) rfl ?_
  obtain ⟨a1, e1, l1⟩ : ∃ z, nx (Bt σ) t q = z ∧ z ≤ t := ⟨_, rfl, (nx_b (by omega)).2.1⟩
  have j1 := en_b (B := Bt σ) l1
  have y1 := vl_b (B := Bt σ) (t := t) (q := a1)
  have k1 := kd_le (Bt σ) t a1
  refine g_callVV [] (by decide +kernel : decode prog_10_method_28_code 1 = .ok (.invokevirtual 94, 3)) lk_Md_94 (m_nextT σ f b hT (by omega) e1) rfl rfl rfl rfl (Nat.le_of_ble_eq_true rfl) (Nat.le_of_ble_eq_true rfl) (fun s1 h1 => ?_)
  obtain rfl := h1
  refine g_aload_n (by decide +kernel : decode prog_10_method_28_code 4 = .ok (.aload_n 0, 1)) rfl ?_
  refine g_getI (by decide +kernel : decode prog_10_method_28_code 5 = .ok (.getfield 87, 3)) fl_Md_87.get rfl rfl ?_
  refine g_top (w := nI (vl (Bt σ) t a1)) (rfl) ?_
  refine g_istore_n (L' := [some (.ref 0), some (.int (nI (vl (Bt σ) t a1)))]) (by decide +kernel : decode prog_10_method_28_code 8 = .ok (.istore_n 1, 1)) (Nat.le_of_ble_eq_true rfl) rfl ?_
  refine g_aload_n (by decide +kernel : decode prog_10_method_28_code 9 = .ok (.aload_n 0, 1)) rfl ?_
  refine g_aload_n (by decide +kernel : decode prog_10_method_28_code 10 = .ok (.aload_n 0, 1)) rfl ?_
  refine g_getI (by decide +kernel : decode prog_10_method_28_code 11 = .ok (.getfield 84, 3)) fl_Md_84.get rfl rfl ?_
  refine g_top (w := nI (kd (Bt σ) t a1)) (rfl) ?_
  refine g_iconst (v := nI 2) (by decide +kernel : decode prog_10_method_28_code 14 = .ok (.iconst 2, 1)) (by decide) ?_
  refine g_icmp_neN (tgt := 44) (by decide +kernel : decode prog_10_method_28_code 15 = .ok (.if_icmp .ne 29, 3)) (by decide) (by omega) (by decide) (fun h15 => ?_) (fun h15 => ?_)
  · refine g_iconst (v := nI 0) (by decide +kernel : decode prog_10_method_28_code 44 = .ok (.iconst 0, 1)) (by decide) ?_
    refine g_callVV [.int (nI 0)] (by decide +kernel : decode prog_10_method_28_code 45 = .ok (.invokevirtual 111, 3)) lk_Md_111 (m_needs0 σ f b hT a1) rfl rfl rfl rfl (Nat.le_of_ble_eq_true rfl) (Nat.le_of_ble_eq_true rfl) (fun s45 h45 => ?_)
    obtain rfl := h45
    refine g_aload_n (by decide +kernel : decode prog_10_method_28_code 48 = .ok (.aload_n 0, 1)) rfl ?_
    refine g_aload_n (by decide +kernel : decode prog_10_method_28_code 49 = .ok (.aload_n 0, 1)) rfl ?_
    refine g_bipush (v := nI 105) (by decide +kernel : decode prog_10_method_28_code 50 = .ok (.bipush 105, 2)) (by decide) ?_
    refine g_bipush (v := nI 115) (by decide +kernel : decode prog_10_method_28_code 52 = .ok (.bipush 115, 2)) (by decide) ?_
    refine g_callVI [.int (nI 105), .int (nI 115)] (by decide +kernel : decode prog_10_method_28_code 54 = .ok (.invokevirtual 119, 3)) lk_Md_119 (m_isTwo σ f b hT (nI 1) (by omega) 105 115 (by decide) (by decide) ) rfl rfl rfl rfl (Nat.le_of_ble_eq_true rfl) (Nat.le_of_ble_eq_true rfl) (fun r54 s54 h54 => ?_)
    obtain ⟨rfl, _⟩ := h54
    refine g_callVV [.int r54] (by decide +kernel : decode prog_10_method_28_code 57 = .ok (.invokevirtual 111, 3)) lk_Md_111 (m_needsW σ f b hT r54 a1) rfl rfl rfl rfl (Nat.le_of_ble_eq_true rfl) (Nat.le_of_ble_eq_true rfl) (fun s57 h57 => ?_)
    obtain rfl := h57
    refine g_aload_n (by decide +kernel : decode prog_10_method_28_code 60 = .ok (.aload_n 0, 1)) rfl ?_
    refine g_aload_n (by decide +kernel : decode prog_10_method_28_code 61 = .ok (.aload_n 0, 1)) rfl ?_
    refine g_getI (by decide +kernel : decode prog_10_method_28_code 62 = .ok (.getfield 90, 3)) fl_Md_90.get rfl rfl ?_
    refine g_top (w := nI 1) (rfl) ?_
    refine g_if_eqN (tgt := 72) (by decide +kernel : decode prog_10_method_28_code 65 = .ok (.ifCond .eq 7, 3)) (by decide) (by decide) (fun h => False.elim (by revert h; decide)) (fun _ => ?_)
    refine g_iconst (v := nI 0) (by decide +kernel : decode prog_10_method_28_code 68 = .ok (.iconst 0, 1)) (by decide) ?_
    refine g_goto (tgt := 76) (by decide +kernel : decode prog_10_method_28_code 69 = .ok (.goto 7, 3)) (by decide) ?_
    refine g_bipush (v := nI 9) (by decide +kernel : decode prog_10_method_28_code 76 = .ok (.bipush 9, 2)) (by decide) ?_
    refine g_callVV [.int (nI 0), .int (nI 9)] (by decide +kernel : decode prog_10_method_28_code 78 = .ok (.invokevirtual 115, 3)) lk_Md_115 (m_numW σ f b hT (nI 0) 9 (by decide) (by omega)) rfl rfl rfl rfl (Nat.le_of_ble_eq_true rfl) (Nat.le_of_ble_eq_true rfl) (fun s78 h78 => ?_)
    obtain rfl := h78
    have e9 : coK (Bt σ) t f q = .inl a1 := by simp only [coK, cvK, if_neg (show ¬ isN (Bt σ) t 11 a1 from fun z => by omega), e1]
    refine g_vret hR (by decide +kernel : decode prog_10_method_28_code 81 = .ok (.return_, 1)) rfl ⟨rfl, ?_⟩
    rw [e9]
    exact ⟨by omega, _, rfl⟩
  · refine g_aload_n (by decide +kernel : decode prog_10_method_28_code 18 = .ok (.aload_n 0, 1)) rfl ?_
    refine g_getI (by decide +kernel : decode prog_10_method_28_code 19 = .ok (.getfield 67, 3)) fl_Md_67.get rfl rfl ?_
    refine g_top (w := nI (en (Bt σ) t a1)) (rfl) ?_
    refine g_aload_n (by decide +kernel : decode prog_10_method_28_code 22 = .ok (.aload_n 0, 1)) rfl ?_
    refine g_getI (by decide +kernel : decode prog_10_method_28_code 23 = .ok (.getfield 70, 3)) fl_Md_70.get rfl rfl ?_
    refine g_top (w := nI a1) (rfl) ?_
    refine g_isubN (by decide +kernel : decode prog_10_method_28_code 26 = .ok (.isub, 1)) (by omega) ?_
    refine g_iconst (v := nI 3) (by decide +kernel : decode prog_10_method_28_code 27 = .ok (.iconst 3, 1)) (by decide) ?_
    refine g_icmp_gtN (tgt := 44) (by decide +kernel : decode prog_10_method_28_code 28 = .ok (.if_icmp .gt 16, 3)) (by decide) (by omega) (by decide) (fun h28 => ?_) (fun h28 => ?_)
    · refine g_iconst (v := nI 0) (by decide +kernel : decode prog_10_method_28_code 44 = .ok (.iconst 0, 1)) (by decide) ?_
      refine g_callVV [.int (nI 0)] (by decide +kernel : decode prog_10_method_28_code 45 = .ok (.invokevirtual 111, 3)) lk_Md_111 (m_needs0 σ f b hT a1) rfl rfl rfl rfl (Nat.le_of_ble_eq_true rfl) (Nat.le_of_ble_eq_true rfl) (fun s45 h45 => ?_)
      obtain rfl := h45
      refine g_aload_n (by decide +kernel : decode prog_10_method_28_code 48 = .ok (.aload_n 0, 1)) rfl ?_
      refine g_aload_n (by decide +kernel : decode prog_10_method_28_code 49 = .ok (.aload_n 0, 1)) rfl ?_
      refine g_bipush (v := nI 105) (by decide +kernel : decode prog_10_method_28_code 50 = .ok (.bipush 105, 2)) (by decide) ?_
      refine g_bipush (v := nI 115) (by decide +kernel : decode prog_10_method_28_code 52 = .ok (.bipush 115, 2)) (by decide) ?_
      refine g_callVI [.int (nI 105), .int (nI 115)] (by decide +kernel : decode prog_10_method_28_code 54 = .ok (.invokevirtual 119, 3)) lk_Md_119 (m_isTwo σ f b hT (nI 1) (by omega) 105 115 (by decide) (by decide) ) rfl rfl rfl rfl (Nat.le_of_ble_eq_true rfl) (Nat.le_of_ble_eq_true rfl) (fun r54 s54 h54 => ?_)
      obtain ⟨rfl, _⟩ := h54
      refine g_callVV [.int r54] (by decide +kernel : decode prog_10_method_28_code 57 = .ok (.invokevirtual 111, 3)) lk_Md_111 (m_needsW σ f b hT r54 a1) rfl rfl rfl rfl (Nat.le_of_ble_eq_true rfl) (Nat.le_of_ble_eq_true rfl) (fun s57 h57 => ?_)
      obtain rfl := h57
      refine g_aload_n (by decide +kernel : decode prog_10_method_28_code 60 = .ok (.aload_n 0, 1)) rfl ?_
      refine g_aload_n (by decide +kernel : decode prog_10_method_28_code 61 = .ok (.aload_n 0, 1)) rfl ?_
      refine g_getI (by decide +kernel : decode prog_10_method_28_code 62 = .ok (.getfield 90, 3)) fl_Md_90.get rfl rfl ?_
      refine g_top (w := nI 1) (rfl) ?_
      refine g_if_eqN (tgt := 72) (by decide +kernel : decode prog_10_method_28_code 65 = .ok (.ifCond .eq 7, 3)) (by decide) (by decide) (fun h => False.elim (by revert h; decide)) (fun _ => ?_)
      refine g_iconst (v := nI 0) (by decide +kernel : decode prog_10_method_28_code 68 = .ok (.iconst 0, 1)) (by decide) ?_
      refine g_goto (tgt := 76) (by decide +kernel : decode prog_10_method_28_code 69 = .ok (.goto 7, 3)) (by decide) ?_
      refine g_bipush (v := nI 9) (by decide +kernel : decode prog_10_method_28_code 76 = .ok (.bipush 9, 2)) (by decide) ?_
      refine g_callVV [.int (nI 0), .int (nI 9)] (by decide +kernel : decode prog_10_method_28_code 78 = .ok (.invokevirtual 115, 3)) lk_Md_115 (m_numW σ f b hT (nI 0) 9 (by decide) (by omega)) rfl rfl rfl rfl (Nat.le_of_ble_eq_true rfl) (Nat.le_of_ble_eq_true rfl) (fun s78 h78 => ?_)
      obtain rfl := h78
      have e9 : coK (Bt σ) t f q = .inl a1 := by simp only [coK, cvK, if_neg (show ¬ isN (Bt σ) t 11 a1 from fun z => by omega), e1]
      refine g_vret hR (by decide +kernel : decode prog_10_method_28_code 81 = .ok (.return_, 1)) rfl ⟨rfl, ?_⟩
      rw [e9]
      exact ⟨by omega, _, rfl⟩
    · refine g_aload_n (by decide +kernel : decode prog_10_method_28_code 31 = .ok (.aload_n 0, 1)) rfl ?_
      refine g_getI (by decide +kernel : decode prog_10_method_28_code 32 = .ok (.getfield 87, 3)) fl_Md_87.get rfl rfl ?_
      refine g_top (w := nI (vl (Bt σ) t a1)) (rfl) ?_
      refine g_bipush (v := nI 12) (by decide +kernel : decode prog_10_method_28_code 35 = .ok (.bipush 12, 2)) (by decide) ?_
      refine g_icmp_geN (tgt := 44) (by decide +kernel : decode prog_10_method_28_code 37 = .ok (.if_icmp .ge 7, 3)) (by decide) (by omega) (by decide) (fun h37 => ?_) (fun h37 => ?_)
      · refine g_iconst (v := nI 0) (by decide +kernel : decode prog_10_method_28_code 44 = .ok (.iconst 0, 1)) (by decide) ?_
        refine g_callVV [.int (nI 0)] (by decide +kernel : decode prog_10_method_28_code 45 = .ok (.invokevirtual 111, 3)) lk_Md_111 (m_needs0 σ f b hT a1) rfl rfl rfl rfl (Nat.le_of_ble_eq_true rfl) (Nat.le_of_ble_eq_true rfl) (fun s45 h45 => ?_)
        obtain rfl := h45
        refine g_aload_n (by decide +kernel : decode prog_10_method_28_code 48 = .ok (.aload_n 0, 1)) rfl ?_
        refine g_aload_n (by decide +kernel : decode prog_10_method_28_code 49 = .ok (.aload_n 0, 1)) rfl ?_
        refine g_bipush (v := nI 105) (by decide +kernel : decode prog_10_method_28_code 50 = .ok (.bipush 105, 2)) (by decide) ?_
        refine g_bipush (v := nI 115) (by decide +kernel : decode prog_10_method_28_code 52 = .ok (.bipush 115, 2)) (by decide) ?_
        refine g_callVI [.int (nI 105), .int (nI 115)] (by decide +kernel : decode prog_10_method_28_code 54 = .ok (.invokevirtual 119, 3)) lk_Md_119 (m_isTwo σ f b hT (nI 1) (by omega) 105 115 (by decide) (by decide) ) rfl rfl rfl rfl (Nat.le_of_ble_eq_true rfl) (Nat.le_of_ble_eq_true rfl) (fun r54 s54 h54 => ?_)
        obtain ⟨rfl, _⟩ := h54
        refine g_callVV [.int r54] (by decide +kernel : decode prog_10_method_28_code 57 = .ok (.invokevirtual 111, 3)) lk_Md_111 (m_needsW σ f b hT r54 a1) rfl rfl rfl rfl (Nat.le_of_ble_eq_true rfl) (Nat.le_of_ble_eq_true rfl) (fun s57 h57 => ?_)
        obtain rfl := h57
        refine g_aload_n (by decide +kernel : decode prog_10_method_28_code 60 = .ok (.aload_n 0, 1)) rfl ?_
        refine g_aload_n (by decide +kernel : decode prog_10_method_28_code 61 = .ok (.aload_n 0, 1)) rfl ?_
        refine g_getI (by decide +kernel : decode prog_10_method_28_code 62 = .ok (.getfield 90, 3)) fl_Md_90.get rfl rfl ?_
        refine g_top (w := nI 1) (rfl) ?_
        refine g_if_eqN (tgt := 72) (by decide +kernel : decode prog_10_method_28_code 65 = .ok (.ifCond .eq 7, 3)) (by decide) (by decide) (fun h => False.elim (by revert h; decide)) (fun _ => ?_)
        refine g_iconst (v := nI 0) (by decide +kernel : decode prog_10_method_28_code 68 = .ok (.iconst 0, 1)) (by decide) ?_
        refine g_goto (tgt := 76) (by decide +kernel : decode prog_10_method_28_code 69 = .ok (.goto 7, 3)) (by decide) ?_
        refine g_bipush (v := nI 9) (by decide +kernel : decode prog_10_method_28_code 76 = .ok (.bipush 9, 2)) (by decide) ?_
        refine g_callVV [.int (nI 0), .int (nI 9)] (by decide +kernel : decode prog_10_method_28_code 78 = .ok (.invokevirtual 115, 3)) lk_Md_115 (m_numW σ f b hT (nI 0) 9 (by decide) (by omega)) rfl rfl rfl rfl (Nat.le_of_ble_eq_true rfl) (Nat.le_of_ble_eq_true rfl) (fun s78 h78 => ?_)
        obtain rfl := h78
        have e9 : coK (Bt σ) t f q = .inl a1 := by simp only [coK, cvK, if_neg (show ¬ isN (Bt σ) t 11 a1 from fun z => by omega), e1]
        refine g_vret hR (by decide +kernel : decode prog_10_method_28_code 81 = .ok (.return_, 1)) rfl ⟨rfl, ?_⟩
        rw [e9]
        exact ⟨by omega, _, rfl⟩
      · refine g_iconst (v := nI 1) (by decide +kernel : decode prog_10_method_28_code 40 = .ok (.iconst 1, 1)) (by decide) ?_
        refine g_goto (tgt := 45) (by decide +kernel : decode prog_10_method_28_code 41 = .ok (.goto 4, 3)) (by decide) ?_
        obtain ⟨a45, e45, l45⟩ : ∃ z, nx (Bt σ) t a1 = z ∧ z ≤ t := ⟨_, rfl, (nx_b (by omega)).2.1⟩
        have j45 := en_b (B := Bt σ) l45
        have y45 := vl_b (B := Bt σ) (t := t) (q := a45)
        have k45 := kd_le (Bt σ) t a45
        refine g_callVV [.int (nI 1)] (by decide +kernel : decode prog_10_method_28_code 45 = .ok (.invokevirtual 111, 3)) lk_Md_111 (m_needs1 σ f b hT (by omega) e45) rfl rfl rfl rfl (Nat.le_of_ble_eq_true rfl) (Nat.le_of_ble_eq_true rfl) (fun s45 h45 => ?_)
        obtain rfl := h45
        refine g_aload_n (by decide +kernel : decode prog_10_method_28_code 48 = .ok (.aload_n 0, 1)) rfl ?_
        refine g_aload_n (by decide +kernel : decode prog_10_method_28_code 49 = .ok (.aload_n 0, 1)) rfl ?_
        refine g_bipush (v := nI 105) (by decide +kernel : decode prog_10_method_28_code 50 = .ok (.bipush 105, 2)) (by decide) ?_
        refine g_bipush (v := nI 115) (by decide +kernel : decode prog_10_method_28_code 52 = .ok (.bipush 115, 2)) (by decide) ?_
        refine g_callVI [.int (nI 105), .int (nI 115)] (by decide +kernel : decode prog_10_method_28_code 54 = .ok (.invokevirtual 119, 3)) lk_Md_119 (PB.of (m_isTwo σ f b hT (nI 0) (by omega) 105 115 (by decide) (by decide) ) nm_is.symm) rfl rfl rfl rfl (Nat.le_of_ble_eq_true rfl) (Nat.le_of_ble_eq_true rfl) (fun r54 s54 h54 => ?_)
        rcases h54 with ⟨rfl, ⟨rfl, w54⟩ | ⟨rfl, w54⟩⟩
        · obtain ⟨a57, e57, l57⟩ : ∃ z, nx (Bt σ) t a45 = z ∧ z ≤ t := ⟨_, rfl, (nx_b (by omega)).2.1⟩
          have j57 := en_b (B := Bt σ) l57
          have y57 := vl_b (B := Bt σ) (t := t) (q := a57)
          have k57 := kd_le (Bt σ) t a57
          refine g_callVV [.int (nI 1)] (by decide +kernel : decode prog_10_method_28_code 57 = .ok (.invokevirtual 111, 3)) lk_Md_111 (m_needs1 σ f b hT (by omega) e57) rfl rfl rfl rfl (Nat.le_of_ble_eq_true rfl) (Nat.le_of_ble_eq_true rfl) (fun s57 h57 => ?_)
          obtain rfl := h57
          refine g_aload_n (by decide +kernel : decode prog_10_method_28_code 60 = .ok (.aload_n 0, 1)) rfl ?_
          refine g_aload_n (by decide +kernel : decode prog_10_method_28_code 61 = .ok (.aload_n 0, 1)) rfl ?_
          refine g_getI (by decide +kernel : decode prog_10_method_28_code 62 = .ok (.getfield 90, 3)) fl_Md_90.get rfl rfl ?_
          refine g_top (w := nI 0) (rfl) ?_
          refine g_if_eqN (tgt := 72) (by decide +kernel : decode prog_10_method_28_code 65 = .ok (.ifCond .eq 7, 3)) (by decide) (by decide) (fun _ => ?_) (fun h => False.elim (by revert h; decide))
          refine g_bipush (v := nI 7) (by decide +kernel : decode prog_10_method_28_code 72 = .ok (.bipush 7, 2)) (by decide) ?_
          refine g_iload_n (by decide +kernel : decode prog_10_method_28_code 74 = .ok (.iload_n 1, 1)) rfl ?_
          refine g_iaddN (by decide +kernel : decode prog_10_method_28_code 75 = .ok (.iadd, 1)) ?_
          refine g_bipush (v := nI 9) (by decide +kernel : decode prog_10_method_28_code 76 = .ok (.bipush 9, 2)) (by decide) ?_
          refine g_callVV [.int (nI (7 + vl (Bt σ) t a1)), .int (nI 9)] (by decide +kernel : decode prog_10_method_28_code 78 = .ok (.invokevirtual 115, 3)) lk_Md_115 (m_num σ f b hT (7 + vl (Bt σ) t a1) 9 (by omega) (by omega) (by omega)) rfl rfl rfl rfl (Nat.le_of_ble_eq_true rfl) (Nat.le_of_ble_eq_true rfl) (fun s78 h78 => ?_)
          rcases h78 with ⟨i78, rfl⟩ | ⟨i78, rfl⟩
          · obtain ⟨a78, e78, l78⟩ : ∃ z, nx (Bt σ) t a57 = z ∧ z ≤ t := ⟨_, rfl, (nx_b (by omega)).2.1⟩
            rw [e78]
            have j78 := en_b (B := Bt σ) l78
            have y78 := vl_b (B := Bt σ) (t := t) (q := a78)
            have k78 := kd_le (Bt σ) t a78
            have e9 : coK (Bt σ) t f q = .inr (a78, upd f (7 + vl (Bt σ) t a1) (nI (vl (Bt σ) t a57))) := by simp only [coK, cvK, if_pos (show isN (Bt σ) t 11 a1 from ⟨by omega, by omega, by omega⟩), e1, e45, if_pos w54, e57, if_pos i78, e78]
            refine g_vret hR (by decide +kernel : decode prog_10_method_28_code 81 = .ok (.return_, 1)) rfl ⟨rfl, ?_⟩
            rw [e9]
            exact ⟨by omega, rfl⟩
          · have e9 : coK (Bt σ) t f q = .inl a57 := by simp only [coK, cvK, if_pos (show isN (Bt σ) t 11 a1 from ⟨by omega, by omega, by omega⟩), e1, e45, if_pos w54, e57, if_neg i78]
            refine g_vret hR (by decide +kernel : decode prog_10_method_28_code 81 = .ok (.return_, 1)) rfl ⟨rfl, ?_⟩
            rw [e9]
            exact ⟨by omega, _, rfl⟩
        · refine g_callVV [.int (nI 0)] (by decide +kernel : decode prog_10_method_28_code 57 = .ok (.invokevirtual 111, 3)) lk_Md_111 (m_needs0 σ f b hT a45) rfl rfl rfl rfl (Nat.le_of_ble_eq_true rfl) (Nat.le_of_ble_eq_true rfl) (fun s57 h57 => ?_)
          obtain rfl := h57
          refine g_aload_n (by decide +kernel : decode prog_10_method_28_code 60 = .ok (.aload_n 0, 1)) rfl ?_
          refine g_aload_n (by decide +kernel : decode prog_10_method_28_code 61 = .ok (.aload_n 0, 1)) rfl ?_
          refine g_getI (by decide +kernel : decode prog_10_method_28_code 62 = .ok (.getfield 90, 3)) fl_Md_90.get rfl rfl ?_
          refine g_top (w := nI 1) (rfl) ?_
          refine g_if_eqN (tgt := 72) (by decide +kernel : decode prog_10_method_28_code 65 = .ok (.ifCond .eq 7, 3)) (by decide) (by decide) (fun h => False.elim (by revert h; decide)) (fun _ => ?_)
          refine g_iconst (v := nI 0) (by decide +kernel : decode prog_10_method_28_code 68 = .ok (.iconst 0, 1)) (by decide) ?_
          refine g_goto (tgt := 76) (by decide +kernel : decode prog_10_method_28_code 69 = .ok (.goto 7, 3)) (by decide) ?_
          refine g_bipush (v := nI 9) (by decide +kernel : decode prog_10_method_28_code 76 = .ok (.bipush 9, 2)) (by decide) ?_
          refine g_callVV [.int (nI 0), .int (nI 9)] (by decide +kernel : decode prog_10_method_28_code 78 = .ok (.invokevirtual 115, 3)) lk_Md_115 (m_numW σ f b hT (nI 0) 9 (by decide) (by omega)) rfl rfl rfl rfl (Nat.le_of_ble_eq_true rfl) (Nat.le_of_ble_eq_true rfl) (fun s78 h78 => ?_)
          obtain rfl := h78
          have e9 : coK (Bt σ) t f q = .inl a45 := by simp only [coK, cvK, if_pos (show isN (Bt σ) t 11 a1 from ⟨by omega, by omega, by omega⟩), e1, e45, if_neg w54]
          refine g_vret hR (by decide +kernel : decode prog_10_method_28_code 81 = .ok (.return_, 1)) rfl ⟨rfl, ?_⟩
          rw [e9]
          exact ⟨by omega, _, rfl⟩
set_option maxRecDepth 20000 in
theorem it_w {X : CX} {σ : Store} {t : Nat} (hT : TP σ t) {g b : Row} {q : Nat} (hq : q ≤ t) {Post : Option Value → Store → Prop} (hp : Post none (mS (tS σ t (nI 1) q) g b)) : Rt (ΛM, mt_Md_itemHere, 6) (Post) X → G (ΛM, mt_Md_itemHere, 6) X (mS (kS σ (nI (kd (Bt σ) t q)) (nI q) (nI (en (Bt σ) t q)) (nI (vl (Bt σ) t q)) (nI 1)) g b) [some (.ref 0), none, none] [] 85 := by
  intro hR
  have h200 := hT.2.1
  have hen := en_b (B := Bt σ) hq
  have hvl := vl_b (B := Bt σ) (t := t) (q := q)
  have hkd := kd_le (Bt σ) t q
  have hkq : kd (Bt σ) t q = 3 → q < t := fun h => kd_lt (by rw [h]; decide)
  refine g_aload_n (by decide +kernel : decode prog_10_method_30_code 85 = .ok (.aload_n 0, 1)) rfl ?_
  refine g_aload_n (by decide +kernel : decode prog_10_method_30_code 86 = .ok (.aload_n 0, 1)) rfl ?_
  refine g_getI (by decide +kernel : decode prog_10_method_30_code 87 = .ok (.getfield 84, 3)) fl_Md_84.get rfl rfl ?_
  refine g_top (w := nI (kd (Bt σ) t q)) (rfl) ?_
  refine g_iconst (v := nI 3) (by decide +kernel : decode prog_10_method_30_code 90 = .ok (.iconst 3, 1)) (by decide) ?_
  refine g_icmp_neN (tgt := 111) (by decide +kernel : decode prog_10_method_30_code 91 = .ok (.if_icmp .ne 20, 3)) (by decide) (by omega) (by decide) (fun h91 => ?_) (fun h91 => ?_)
  · refine g_iconst (v := nI 0) (by decide +kernel : decode prog_10_method_30_code 111 = .ok (.iconst 0, 1)) (by decide) ?_
    refine g_callVV [.int (nI 0)] (by decide +kernel : decode prog_10_method_30_code 112 = .ok (.invokevirtual 111, 3)) lk_Md_111 (m_needsW σ g b hT (nI 0) q) rfl rfl rfl rfl (Nat.le_of_ble_eq_true rfl) (Nat.le_of_ble_eq_true rfl) (fun s112 h112 => ?_)
    obtain rfl := h112
    exact g_vret hR (by decide +kernel : decode prog_10_method_30_code 115 = .ok (.return_, 1)) rfl hp
  · refine g_aload_n (by decide +kernel : decode prog_10_method_30_code 94 = .ok (.aload_n 0, 1)) rfl ?_
    refine g_aload_n (by decide +kernel : decode prog_10_method_30_code 95 = .ok (.aload_n 0, 1)) rfl ?_
    refine g_getI (by decide +kernel : decode prog_10_method_30_code 96 = .ok (.getfield 70, 3)) fl_Md_70.get rfl rfl ?_
    refine g_top (w := nI q) (rfl) ?_
    have c99 := Bt_b (i := q) hT (by omega)
    refine g_callVI [.int (nI q)] (by decide +kernel : decode prog_10_method_30_code 99 = .ok (.invokevirtual 73, 3)) lk_Md_73 (m_byI hT q (by omega)) rfl rfl rfl rfl (Nat.le_of_ble_eq_true rfl) (Nat.le_of_ble_eq_true rfl) (fun r99 s99 h99 => ?_)
    obtain ⟨rfl, rfl⟩ := h99
    refine g_bipush (v := nI 59) (by decide +kernel : decode prog_10_method_30_code 102 = .ok (.bipush 59, 2)) (by decide) ?_
    refine g_icmp_neN (tgt := 111) (by decide +kernel : decode prog_10_method_30_code 104 = .ok (.if_icmp .ne 7, 3)) (by decide) (by omega) (by decide) (fun h104 => ?_) (fun h104 => ?_)
    · refine g_iconst (v := nI 0) (by decide +kernel : decode prog_10_method_30_code 111 = .ok (.iconst 0, 1)) (by decide) ?_
      refine g_callVV [.int (nI 0)] (by decide +kernel : decode prog_10_method_30_code 112 = .ok (.invokevirtual 111, 3)) lk_Md_111 (m_needsW σ g b hT (nI 0) q) rfl rfl rfl rfl (Nat.le_of_ble_eq_true rfl) (Nat.le_of_ble_eq_true rfl) (fun s112 h112 => ?_)
      obtain rfl := h112
      exact g_vret hR (by decide +kernel : decode prog_10_method_30_code 115 = .ok (.return_, 1)) rfl hp
    · refine g_iconst (v := nI 1) (by decide +kernel : decode prog_10_method_30_code 107 = .ok (.iconst 1, 1)) (by decide) ?_
      refine g_goto (tgt := 112) (by decide +kernel : decode prog_10_method_30_code 108 = .ok (.goto 4, 3)) (by decide) ?_
      refine g_callVV [.int (nI 1)] (by decide +kernel : decode prog_10_method_30_code 112 = .ok (.invokevirtual 111, 3)) lk_Md_111 (m_needsW σ g b hT (nI 1) q) rfl rfl rfl rfl (Nat.le_of_ble_eq_true rfl) (Nat.le_of_ble_eq_true rfl) (fun s112 h112 => ?_)
      obtain rfl := h112
      exact g_vret hR (by decide +kernel : decode prog_10_method_30_code 115 = .ok (.return_, 1)) rfl hp
set_option maxRecDepth 20000 in
theorem it_ok {X : CX} {σ : Store} {t : Nat} (hT : TP σ t) {g b : Row} {q : Nat} (hq : q ≤ t) {Post : Option Value → Store → Prop} (hp : isC (Bt σ) t q → Post none (mS (tS σ t (nI 0) (nx (Bt σ) t q)) g b)) (hn : ¬ isC (Bt σ) t q → Post none (mS (tS σ t (nI 1) q) g b)) : Rt (ΛM, mt_Md_itemHere, 6) (Post) X → G (ΛM, mt_Md_itemHere, 6) X (mS (kS σ (nI (kd (Bt σ) t q)) (nI q) (nI (en (Bt σ) t q)) (nI (vl (Bt σ) t q)) (nI 0)) g b) [some (.ref 0), none, none] [] 85 := by
  intro hR
  have h200 := hT.2.1
  have hen := en_b (B := Bt σ) hq
  have hvl := vl_b (B := Bt σ) (t := t) (q := q)
  have hkd := kd_le (Bt σ) t q
  have hkq : kd (Bt σ) t q = 3 → q < t := fun h => kd_lt (by rw [h]; decide)
  refine g_aload_n (by decide +kernel : decode prog_10_method_30_code 85 = .ok (.aload_n 0, 1)) rfl ?_
  refine g_aload_n (by decide +kernel : decode prog_10_method_30_code 86 = .ok (.aload_n 0, 1)) rfl ?_
  refine g_getI (by decide +kernel : decode prog_10_method_30_code 87 = .ok (.getfield 84, 3)) fl_Md_84.get rfl rfl ?_
  refine g_top (w := nI (kd (Bt σ) t q)) (rfl) ?_
  refine g_iconst (v := nI 3) (by decide +kernel : decode prog_10_method_30_code 90 = .ok (.iconst 3, 1)) (by decide) ?_
  refine g_icmp_neN (tgt := 111) (by decide +kernel : decode prog_10_method_30_code 91 = .ok (.if_icmp .ne 20, 3)) (by decide) (by omega) (by decide) (fun h91 => ?_) (fun h91 => ?_)
  · refine g_iconst (v := nI 0) (by decide +kernel : decode prog_10_method_30_code 111 = .ok (.iconst 0, 1)) (by decide) ?_
    refine g_callVV [.int (nI 0)] (by decide +kernel : decode prog_10_method_30_code 112 = .ok (.invokevirtual 111, 3)) lk_Md_111 (m_needs0 σ g b hT q) rfl rfl rfl rfl (Nat.le_of_ble_eq_true rfl) (Nat.le_of_ble_eq_true rfl) (fun s112 h112 => ?_)
    obtain rfl := h112
    exact g_vret hR (by decide +kernel : decode prog_10_method_30_code 115 = .ok (.return_, 1)) rfl (hn (fun z => by omega))
  · refine g_aload_n (by decide +kernel : decode prog_10_method_30_code 94 = .ok (.aload_n 0, 1)) rfl ?_
    refine g_aload_n (by decide +kernel : decode prog_10_method_30_code 95 = .ok (.aload_n 0, 1)) rfl ?_
    refine g_getI (by decide +kernel : decode prog_10_method_30_code 96 = .ok (.getfield 70, 3)) fl_Md_70.get rfl rfl ?_
    refine g_top (w := nI q) (rfl) ?_
    have c99 := Bt_b (i := q) hT (by omega)
    refine g_callVI [.int (nI q)] (by decide +kernel : decode prog_10_method_30_code 99 = .ok (.invokevirtual 73, 3)) lk_Md_73 (m_byI hT q (by omega)) rfl rfl rfl rfl (Nat.le_of_ble_eq_true rfl) (Nat.le_of_ble_eq_true rfl) (fun r99 s99 h99 => ?_)
    obtain ⟨rfl, rfl⟩ := h99
    refine g_bipush (v := nI 59) (by decide +kernel : decode prog_10_method_30_code 102 = .ok (.bipush 59, 2)) (by decide) ?_
    refine g_icmp_neN (tgt := 111) (by decide +kernel : decode prog_10_method_30_code 104 = .ok (.if_icmp .ne 7, 3)) (by decide) (by omega) (by decide) (fun h104 => ?_) (fun h104 => ?_)
    · refine g_iconst (v := nI 0) (by decide +kernel : decode prog_10_method_30_code 111 = .ok (.iconst 0, 1)) (by decide) ?_
      refine g_callVV [.int (nI 0)] (by decide +kernel : decode prog_10_method_30_code 112 = .ok (.invokevirtual 111, 3)) lk_Md_111 (m_needs0 σ g b hT q) rfl rfl rfl rfl (Nat.le_of_ble_eq_true rfl) (Nat.le_of_ble_eq_true rfl) (fun s112 h112 => ?_)
      obtain rfl := h112
      exact g_vret hR (by decide +kernel : decode prog_10_method_30_code 115 = .ok (.return_, 1)) rfl (hn (fun z => by omega))
    · refine g_iconst (v := nI 1) (by decide +kernel : decode prog_10_method_30_code 107 = .ok (.iconst 1, 1)) (by decide) ?_
      refine g_goto (tgt := 112) (by decide +kernel : decode prog_10_method_30_code 108 = .ok (.goto 4, 3)) (by decide) ?_
      obtain ⟨a112, e112, l112⟩ : ∃ z, nx (Bt σ) t q = z ∧ z ≤ t := ⟨_, rfl, (nx_b (by omega)).2.1⟩
      have j112 := en_b (B := Bt σ) l112
      have y112 := vl_b (B := Bt σ) (t := t) (q := a112)
      have k112 := kd_le (Bt σ) t a112
      refine g_callVV [.int (nI 1)] (by decide +kernel : decode prog_10_method_30_code 112 = .ok (.invokevirtual 111, 3)) lk_Md_111 (m_needs1 σ g b hT (by omega) e112) rfl rfl rfl rfl (Nat.le_of_ble_eq_true rfl) (Nat.le_of_ble_eq_true rfl) (fun s112 h112 => ?_)
      obtain rfl := h112
      rw [← e112]
      exact g_vret hR (by decide +kernel : decode prog_10_method_30_code 115 = .ok (.return_, 1)) rfl (hp ⟨by omega, by omega⟩)
set_option maxRecDepth 20000 in
theorem m_itemHere (σ : Store) (f b : Row) {t : Nat} (hT : TP σ t) (hI : Inv f) (hZ : Zf f) {q : Nat} (hq : q ≤ t) : Ct ΛM mt_Md_itemHere 6 [.ref 0] (mS (kS σ (nI (kd (Bt σ) t q)) (nI q) (nI (en (Bt σ) t q)) (nI (vl (Bt σ) t q)) (nI 0)) f b) (PV (PK σ t b (itm (Bt σ) t f q))) := by
  refine Ct.of (by decide) (Nat.le_of_ble_eq_true rfl) (fun X hR => ?_)
  show G (ΛM, mt_Md_itemHere, 6) X (mS (kS σ (nI (kd (Bt σ) t q)) (nI q) (nI (en (Bt σ) t q)) (nI (vl (Bt σ) t q)) (nI 0)) f b) [some (.ref 0), none, none] [] 0
  have h200 := hT.2.1
  have hen := en_b (B := Bt σ) hq
  have hvl := vl_b (B := Bt σ) (t := t) (q := q)
  have hkd := kd_le (Bt σ) t q
  refine g_aload_n (by decide +kernel : decode prog_10_method_30_code 0 = .ok (.aload_n 0, 1)) rfl ?_
  refine g_callVI [] (by decide +kernel : decode prog_10_method_30_code 1 = .ok (.invokevirtual 127, 3)) lk_Md_127 (m_kindHere σ f b hT hq) rfl rfl rfl rfl (Nat.le_of_ble_eq_true rfl) (Nat.le_of_ble_eq_true rfl) (fun r1 s1 h1 => ?_)
  (obtain ⟨rfl, rfl⟩ := h1); rcases kdW_c (Bt σ) t q with hk | ⟨k, hk5, hk⟩
  · refine g_top (w := -1) (by rw [hk]; rfl) ?_
    refine g_istore_n (L' := [some (.ref 0), some (.int (-1)), none]) (by decide +kernel : decode prog_10_method_30_code 4 = .ok (.istore_n 1, 1)) (Nat.le_of_ble_eq_true rfl) rfl ?_
    refine g_aload_n (by decide +kernel : decode prog_10_method_30_code 5 = .ok (.aload_n 0, 1)) rfl ?_
    refine g_callVI [] (by decide +kernel : decode prog_10_method_30_code 6 = .ok (.invokevirtual 131, 3)) lk_Md_131 (m_lawHere σ f b hT hq) rfl rfl rfl rfl (Nat.le_of_ble_eq_true rfl) (Nat.le_of_ble_eq_true rfl) (fun r6 s6 h6 => ?_)
    (obtain ⟨rfl, rfl⟩ := h6); rcases lwW_c (Bt σ) t q with hl | hl | hl | hl | hl
    · refine g_top (w := -1) (by rw [hl]; rfl) ?_
      refine g_istore_n (L' := [some (.ref 0), some (.int (-1)), some (.int (-1))]) (by decide +kernel : decode prog_10_method_30_code 9 = .ok (.istore_n 2, 1)) (Nat.le_of_ble_eq_true rfl) rfl ?_
      refine g_iload_n (by decide +kernel : decode prog_10_method_30_code 10 = .ok (.iload_n 1, 1)) rfl ?_
      refine g_if_lt (tgt := 22) (by decide +kernel : decode prog_10_method_30_code 11 = .ok (.ifCond .lt 11, 3)) (by decide) (fun _ => ?_) (fun h => absurd h (by decide))
      refine g_iload_n (by decide +kernel : decode prog_10_method_30_code 22 = .ok (.iload_n 2, 1)) rfl ?_
      refine g_if_lt (tgt := 56) (by decide +kernel : decode prog_10_method_30_code 23 = .ok (.ifCond .lt 33, 3)) (by decide) (fun _ => ?_) (fun h => absurd h (by decide))
      refine g_aload_n (by decide +kernel : decode prog_10_method_30_code 56 = .ok (.aload_n 0, 1)) rfl ?_
      refine g_bipush (v := nI 99) (by decide +kernel : decode prog_10_method_30_code 57 = .ok (.bipush 99, 2)) (by decide) ?_
      refine g_bipush (v := nI 111) (by decide +kernel : decode prog_10_method_30_code 59 = .ok (.bipush 111, 2)) (by decide) ?_
      refine g_bipush (v := nI 118) (by decide +kernel : decode prog_10_method_30_code 61 = .ok (.bipush 118, 2)) (by decide) ?_
      refine g_bipush (v := nI 101) (by decide +kernel : decode prog_10_method_30_code 63 = .ok (.bipush 101, 2)) (by decide) ?_
      refine g_bipush (v := nI 114) (by decide +kernel : decode prog_10_method_30_code 65 = .ok (.bipush 114, 2)) (by decide) ?_
      refine g_callVI [.int (nI 99), .int (nI 111), .int (nI 118), .int (nI 101), .int (nI 114)] (by decide +kernel : decode prog_10_method_30_code 67 = .ok (.invokevirtual 101, 3)) lk_Md_101 (PB.of (m_isFive σ f b hT (nI 0) (by omega) 99 111 118 101 114 (by decide) (by decide) (by decide) (by decide) (by decide) ) nm_cover.symm) rfl rfl rfl rfl (Nat.le_of_ble_eq_true rfl) (Nat.le_of_ble_eq_true rfl) (fun r67 s67 h67 => ?_)
      rcases h67 with ⟨rfl, ⟨rfl, w67⟩ | ⟨rfl, w67⟩⟩
      · refine g_if_eqN (tgt := 80) (by decide +kernel : decode prog_10_method_30_code 70 = .ok (.ifCond .eq 10, 3)) (by decide) (by decide) (fun h => False.elim (by revert h; decide)) (fun _ => ?_)
        refine g_aload_n (by decide +kernel : decode prog_10_method_30_code 73 = .ok (.aload_n 0, 1)) rfl ?_
        refine g_callVV [] (by decide +kernel : decode prog_10_method_30_code 74 = .ok (.invokevirtual 138, 3)) lk_Md_138 (m_coverHere σ f b hT hq) rfl rfl rfl rfl (Nat.le_of_ble_eq_true rfl) (Nat.le_of_ble_eq_true rfl) (fun s74 h74 => ?_)
        (generalize hp : coK (Bt σ) t f q = r at h74); rcases r with e | ⟨q2, g⟩
        · obtain ⟨le, g, rfl⟩ := h74
          refine g_goto (tgt := 85) (by decide +kernel : decode prog_10_method_30_code 77 = .ok (.goto 8, 3)) (by decide) ?_
          refine g_sub (L' := [some (.ref 0), none, none]) ⟨rfl, trivial⟩ ?_
          refine it_w hT (by omega) ⟨rfl, ?_⟩ hR
          have e9 : itm (Bt σ) t f q = .inl e := by simp only [itm, beK, laK, hk, hl, if_pos w67, hp, lm, stK]
          rw [e9]
          exact ⟨by omega, _, rfl⟩
        · obtain ⟨le, rfl⟩ := h74
          have le : q2 ≤ t := le
          show G (ΛM, mt_Md_itemHere, 6) X (mS (kS σ (nI (kd (Bt σ) t q2)) (nI q2) (nI (en (Bt σ) t q2)) (nI (vl (Bt σ) t q2)) (nI 0)) g b) [some (.ref 0), some (.int (-1)), some (.int (-1))] [] 77
          refine g_goto (tgt := 85) (by decide +kernel : decode prog_10_method_30_code 77 = .ok (.goto 8, 3)) (by decide) ?_
          refine g_sub (L' := [some (.ref 0), none, none]) ⟨rfl, trivial⟩ ?_
          refine it_ok hT (by omega) (fun hC => ⟨rfl, ?_⟩) (fun hC => ⟨rfl, ?_⟩) hR
          · have e9 : itm (Bt σ) t f q = .inr (nx (Bt σ) t q2, g) := by simp only [itm, beK, laK, hk, hl, if_pos w67, hp, lm, stK, if_pos hC]
            rw [e9]
            exact ⟨(nx_b (by omega)).2.1, rfl⟩
          · have e9 : itm (Bt σ) t f q = .inl q2 := by simp only [itm, beK, laK, hk, hl, if_pos w67, hp, lm, stK, if_neg hC]
            rw [e9]
            exact ⟨by omega, _, rfl⟩
      · refine g_if_eqN (tgt := 80) (by decide +kernel : decode prog_10_method_30_code 70 = .ok (.ifCond .eq 10, 3)) (by decide) (by decide) (fun _ => ?_) (fun h => False.elim (by revert h; decide))
        refine g_aload_n (by decide +kernel : decode prog_10_method_30_code 80 = .ok (.aload_n 0, 1)) rfl ?_
        refine g_iconst (v := nI 0) (by decide +kernel : decode prog_10_method_30_code 81 = .ok (.iconst 0, 1)) (by decide) ?_
        refine g_callVV [.int (nI 0)] (by decide +kernel : decode prog_10_method_30_code 82 = .ok (.invokevirtual 111, 3)) lk_Md_111 (m_needs0 σ f b hT q) rfl rfl rfl rfl (Nat.le_of_ble_eq_true rfl) (Nat.le_of_ble_eq_true rfl) (fun s82 h82 => ?_)
        obtain rfl := h82
        refine g_sub (L' := [some (.ref 0), none, none]) ⟨rfl, trivial⟩ ?_
        refine it_w hT (by omega) ⟨rfl, ?_⟩ hR
        have e9 : itm (Bt σ) t f q = .inl q := by simp only [itm, beK, laK, hk, hl, if_neg w67, lm, stK]
        rw [e9]
        exact ⟨by omega, _, rfl⟩
    · refine g_top (w := nI 3) (by rw [hl]; rfl) ?_
      refine g_istore_n (L' := [some (.ref 0), some (.int (-1)), some (.int (nI 3))]) (by decide +kernel : decode prog_10_method_30_code 9 = .ok (.istore_n 2, 1)) (Nat.le_of_ble_eq_true rfl) rfl ?_
      refine g_iload_n (by decide +kernel : decode prog_10_method_30_code 10 = .ok (.iload_n 1, 1)) rfl ?_
      refine g_if_lt (tgt := 22) (by decide +kernel : decode prog_10_method_30_code 11 = .ok (.ifCond .lt 11, 3)) (by decide) (fun _ => ?_) (fun h => absurd h (by decide))
      refine g_iload_n (by decide +kernel : decode prog_10_method_30_code 22 = .ok (.iload_n 2, 1)) rfl ?_
      refine g_if_ltN (by decide +kernel : decode prog_10_method_30_code 23 = .ok (.ifCond .lt 33, 3)) (by decide) (by decide) ?_
      refine g_aload_n (by decide +kernel : decode prog_10_method_30_code 26 = .ok (.aload_n 0, 1)) rfl ?_
      obtain ⟨a27, e27, l27⟩ : ∃ z, nx (Bt σ) t q = z ∧ z ≤ t := ⟨_, rfl, (nx_b (by omega)).2.1⟩
      have j27 := en_b (B := Bt σ) l27
      have y27 := vl_b (B := Bt σ) (t := t) (q := a27)
      have k27 := kd_le (Bt σ) t a27
      refine g_callVV [] (by decide +kernel : decode prog_10_method_30_code 27 = .ok (.invokevirtual 94, 3)) lk_Md_94 (m_nextT σ f b hT (by omega) e27) rfl rfl rfl rfl (Nat.le_of_ble_eq_true rfl) (Nat.le_of_ble_eq_true rfl) (fun s27 h27 => ?_)
      obtain rfl := h27
      refine g_aload_n (by decide +kernel : decode prog_10_method_30_code 30 = .ok (.aload_n 0, 1)) rfl ?_
      refine g_iload_n (by decide +kernel : decode prog_10_method_30_code 31 = .ok (.iload_n 2, 1)) rfl ?_
      refine g_iload_n (by decide +kernel : decode prog_10_method_30_code 32 = .ok (.iload_n 2, 1)) rfl ?_
      refine g_iconst (v := nI 3) (by decide +kernel : decode prog_10_method_30_code 33 = .ok (.iconst 3, 1)) (by decide) ?_
      refine g_icmp_eqN (tgt := 43) (by decide +kernel : decode prog_10_method_30_code 34 = .ok (.if_icmp .eq 9, 3)) (by decide) (by decide) (by decide) (fun _ => ?_) (fun h => False.elim (by revert h; decide))
      refine g_bipush (v := nI 99) (by decide +kernel : decode prog_10_method_30_code 43 = .ok (.bipush 99, 2)) (by decide) ?_
      refine g_goto (tgt := 50) (by decide +kernel : decode prog_10_method_30_code 45 = .ok (.goto 5, 3)) (by decide) ?_
      refine g_callVV [.int (nI 3), .int (nI 99)] (by decide +kernel : decode prog_10_method_30_code 50 = .ok (.invokevirtual 115, 3)) lk_Md_115 (m_num σ f b hT 3 99 (by omega) (by omega) (by omega)) rfl rfl rfl rfl (Nat.le_of_ble_eq_true rfl) (Nat.le_of_ble_eq_true rfl) (fun s50 h50 => ?_)
      rcases h50 with ⟨i50, rfl⟩ | ⟨i50, rfl⟩
      · obtain ⟨a50, e50, l50⟩ : ∃ z, nx (Bt σ) t a27 = z ∧ z ≤ t := ⟨_, rfl, (nx_b (by omega)).2.1⟩
        rw [e50]
        have j50 := en_b (B := Bt σ) l50
        have y50 := vl_b (B := Bt σ) (t := t) (q := a50)
        have k50 := kd_le (Bt σ) t a50
        refine g_goto (tgt := 85) (by decide +kernel : decode prog_10_method_30_code 53 = .ok (.goto 32, 3)) (by decide) ?_
        refine g_sub (L' := [some (.ref 0), none, none]) ⟨rfl, trivial⟩ ?_
        refine it_ok hT (by omega) (fun hC => ⟨rfl, ?_⟩) (fun hC => ⟨rfl, ?_⟩) hR
        · have e9 : itm (Bt σ) t f q = .inr (nx (Bt σ) t a50, upd f 3 (nI (vl (Bt σ) t a27))) := by simp only [itm, beK, laK, hk, hl, e27, if_pos i50, e50, lm, stK, if_pos hC]
          rw [e9]
          exact ⟨(nx_b (by omega)).2.1, rfl⟩
        · have e9 : itm (Bt σ) t f q = .inl a50 := by simp only [itm, beK, laK, hk, hl, e27, if_pos i50, e50, lm, stK, if_neg hC]
          rw [e9]
          exact ⟨by omega, _, rfl⟩
      · refine g_goto (tgt := 85) (by decide +kernel : decode prog_10_method_30_code 53 = .ok (.goto 32, 3)) (by decide) ?_
        refine g_sub (L' := [some (.ref 0), none, none]) ⟨rfl, trivial⟩ ?_
        refine it_w hT (by omega) ⟨rfl, ?_⟩ hR
        have e9 : itm (Bt σ) t f q = .inl a27 := by simp only [itm, beK, laK, hk, hl, e27, if_neg i50, lm, stK]
        rw [e9]
        exact ⟨by omega, _, rfl⟩
    · refine g_top (w := nI 4) (by rw [hl]; rfl) ?_
      refine g_istore_n (L' := [some (.ref 0), some (.int (-1)), some (.int (nI 4))]) (by decide +kernel : decode prog_10_method_30_code 9 = .ok (.istore_n 2, 1)) (Nat.le_of_ble_eq_true rfl) rfl ?_
      refine g_iload_n (by decide +kernel : decode prog_10_method_30_code 10 = .ok (.iload_n 1, 1)) rfl ?_
      refine g_if_lt (tgt := 22) (by decide +kernel : decode prog_10_method_30_code 11 = .ok (.ifCond .lt 11, 3)) (by decide) (fun _ => ?_) (fun h => absurd h (by decide))
      refine g_iload_n (by decide +kernel : decode prog_10_method_30_code 22 = .ok (.iload_n 2, 1)) rfl ?_
      refine g_if_ltN (by decide +kernel : decode prog_10_method_30_code 23 = .ok (.ifCond .lt 33, 3)) (by decide) (by decide) ?_
      refine g_aload_n (by decide +kernel : decode prog_10_method_30_code 26 = .ok (.aload_n 0, 1)) rfl ?_
      obtain ⟨a27, e27, l27⟩ : ∃ z, nx (Bt σ) t q = z ∧ z ≤ t := ⟨_, rfl, (nx_b (by omega)).2.1⟩
      have j27 := en_b (B := Bt σ) l27
      have y27 := vl_b (B := Bt σ) (t := t) (q := a27)
      have k27 := kd_le (Bt σ) t a27
      refine g_callVV [] (by decide +kernel : decode prog_10_method_30_code 27 = .ok (.invokevirtual 94, 3)) lk_Md_94 (m_nextT σ f b hT (by omega) e27) rfl rfl rfl rfl (Nat.le_of_ble_eq_true rfl) (Nat.le_of_ble_eq_true rfl) (fun s27 h27 => ?_)
      obtain rfl := h27
      refine g_aload_n (by decide +kernel : decode prog_10_method_30_code 30 = .ok (.aload_n 0, 1)) rfl ?_
      refine g_iload_n (by decide +kernel : decode prog_10_method_30_code 31 = .ok (.iload_n 2, 1)) rfl ?_
      refine g_iload_n (by decide +kernel : decode prog_10_method_30_code 32 = .ok (.iload_n 2, 1)) rfl ?_
      refine g_iconst (v := nI 3) (by decide +kernel : decode prog_10_method_30_code 33 = .ok (.iconst 3, 1)) (by decide) ?_
      refine g_icmp_eqN (tgt := 43) (by decide +kernel : decode prog_10_method_30_code 34 = .ok (.if_icmp .eq 9, 3)) (by decide) (by decide) (by decide) (fun h => False.elim (by revert h; decide)) (fun _ => ?_)
      refine g_iload_n (by decide +kernel : decode prog_10_method_30_code 37 = .ok (.iload_n 2, 1)) rfl ?_
      refine g_bipush (v := nI 6) (by decide +kernel : decode prog_10_method_30_code 38 = .ok (.bipush 6, 2)) (by decide) ?_
      refine g_icmp_neN (tgt := 48) (by decide +kernel : decode prog_10_method_30_code 40 = .ok (.if_icmp .ne 8, 3)) (by decide) (by decide) (by decide) (fun _ => ?_) (fun h => False.elim (by revert h; decide))
      refine g_bipush (v := nI 9) (by decide +kernel : decode prog_10_method_30_code 48 = .ok (.bipush 9, 2)) (by decide) ?_
      refine g_callVV [.int (nI 4), .int (nI 9)] (by decide +kernel : decode prog_10_method_30_code 50 = .ok (.invokevirtual 115, 3)) lk_Md_115 (m_num σ f b hT 4 9 (by omega) (by omega) (by omega)) rfl rfl rfl rfl (Nat.le_of_ble_eq_true rfl) (Nat.le_of_ble_eq_true rfl) (fun s50 h50 => ?_)
      rcases h50 with ⟨i50, rfl⟩ | ⟨i50, rfl⟩
      · obtain ⟨a50, e50, l50⟩ : ∃ z, nx (Bt σ) t a27 = z ∧ z ≤ t := ⟨_, rfl, (nx_b (by omega)).2.1⟩
        rw [e50]
        have j50 := en_b (B := Bt σ) l50
        have y50 := vl_b (B := Bt σ) (t := t) (q := a50)
        have k50 := kd_le (Bt σ) t a50
        refine g_goto (tgt := 85) (by decide +kernel : decode prog_10_method_30_code 53 = .ok (.goto 32, 3)) (by decide) ?_
        refine g_sub (L' := [some (.ref 0), none, none]) ⟨rfl, trivial⟩ ?_
        refine it_ok hT (by omega) (fun hC => ⟨rfl, ?_⟩) (fun hC => ⟨rfl, ?_⟩) hR
        · have e9 : itm (Bt σ) t f q = .inr (nx (Bt σ) t a50, upd f 4 (nI (vl (Bt σ) t a27))) := by simp only [itm, beK, laK, hk, hl, e27, if_pos i50, e50, lm, stK, if_pos hC]
          rw [e9]
          exact ⟨(nx_b (by omega)).2.1, rfl⟩
        · have e9 : itm (Bt σ) t f q = .inl a50 := by simp only [itm, beK, laK, hk, hl, e27, if_pos i50, e50, lm, stK, if_neg hC]
          rw [e9]
          exact ⟨by omega, _, rfl⟩
      · refine g_goto (tgt := 85) (by decide +kernel : decode prog_10_method_30_code 53 = .ok (.goto 32, 3)) (by decide) ?_
        refine g_sub (L' := [some (.ref 0), none, none]) ⟨rfl, trivial⟩ ?_
        refine it_w hT (by omega) ⟨rfl, ?_⟩ hR
        have e9 : itm (Bt σ) t f q = .inl a27 := by simp only [itm, beK, laK, hk, hl, e27, if_neg i50, lm, stK]
        rw [e9]
        exact ⟨by omega, _, rfl⟩
    · refine g_top (w := nI 5) (by rw [hl]; rfl) ?_
      refine g_istore_n (L' := [some (.ref 0), some (.int (-1)), some (.int (nI 5))]) (by decide +kernel : decode prog_10_method_30_code 9 = .ok (.istore_n 2, 1)) (Nat.le_of_ble_eq_true rfl) rfl ?_
      refine g_iload_n (by decide +kernel : decode prog_10_method_30_code 10 = .ok (.iload_n 1, 1)) rfl ?_
      refine g_if_lt (tgt := 22) (by decide +kernel : decode prog_10_method_30_code 11 = .ok (.ifCond .lt 11, 3)) (by decide) (fun _ => ?_) (fun h => absurd h (by decide))
      refine g_iload_n (by decide +kernel : decode prog_10_method_30_code 22 = .ok (.iload_n 2, 1)) rfl ?_
      refine g_if_ltN (by decide +kernel : decode prog_10_method_30_code 23 = .ok (.ifCond .lt 33, 3)) (by decide) (by decide) ?_
      refine g_aload_n (by decide +kernel : decode prog_10_method_30_code 26 = .ok (.aload_n 0, 1)) rfl ?_
      obtain ⟨a27, e27, l27⟩ : ∃ z, nx (Bt σ) t q = z ∧ z ≤ t := ⟨_, rfl, (nx_b (by omega)).2.1⟩
      have j27 := en_b (B := Bt σ) l27
      have y27 := vl_b (B := Bt σ) (t := t) (q := a27)
      have k27 := kd_le (Bt σ) t a27
      refine g_callVV [] (by decide +kernel : decode prog_10_method_30_code 27 = .ok (.invokevirtual 94, 3)) lk_Md_94 (m_nextT σ f b hT (by omega) e27) rfl rfl rfl rfl (Nat.le_of_ble_eq_true rfl) (Nat.le_of_ble_eq_true rfl) (fun s27 h27 => ?_)
      obtain rfl := h27
      refine g_aload_n (by decide +kernel : decode prog_10_method_30_code 30 = .ok (.aload_n 0, 1)) rfl ?_
      refine g_iload_n (by decide +kernel : decode prog_10_method_30_code 31 = .ok (.iload_n 2, 1)) rfl ?_
      refine g_iload_n (by decide +kernel : decode prog_10_method_30_code 32 = .ok (.iload_n 2, 1)) rfl ?_
      refine g_iconst (v := nI 3) (by decide +kernel : decode prog_10_method_30_code 33 = .ok (.iconst 3, 1)) (by decide) ?_
      refine g_icmp_eqN (tgt := 43) (by decide +kernel : decode prog_10_method_30_code 34 = .ok (.if_icmp .eq 9, 3)) (by decide) (by decide) (by decide) (fun h => False.elim (by revert h; decide)) (fun _ => ?_)
      refine g_iload_n (by decide +kernel : decode prog_10_method_30_code 37 = .ok (.iload_n 2, 1)) rfl ?_
      refine g_bipush (v := nI 6) (by decide +kernel : decode prog_10_method_30_code 38 = .ok (.bipush 6, 2)) (by decide) ?_
      refine g_icmp_neN (tgt := 48) (by decide +kernel : decode prog_10_method_30_code 40 = .ok (.if_icmp .ne 8, 3)) (by decide) (by decide) (by decide) (fun _ => ?_) (fun h => False.elim (by revert h; decide))
      refine g_bipush (v := nI 9) (by decide +kernel : decode prog_10_method_30_code 48 = .ok (.bipush 9, 2)) (by decide) ?_
      refine g_callVV [.int (nI 5), .int (nI 9)] (by decide +kernel : decode prog_10_method_30_code 50 = .ok (.invokevirtual 115, 3)) lk_Md_115 (m_num σ f b hT 5 9 (by omega) (by omega) (by omega)) rfl rfl rfl rfl (Nat.le_of_ble_eq_true rfl) (Nat.le_of_ble_eq_true rfl) (fun s50 h50 => ?_)
      rcases h50 with ⟨i50, rfl⟩ | ⟨i50, rfl⟩
      · obtain ⟨a50, e50, l50⟩ : ∃ z, nx (Bt σ) t a27 = z ∧ z ≤ t := ⟨_, rfl, (nx_b (by omega)).2.1⟩
        rw [e50]
        have j50 := en_b (B := Bt σ) l50
        have y50 := vl_b (B := Bt σ) (t := t) (q := a50)
        have k50 := kd_le (Bt σ) t a50
        refine g_goto (tgt := 85) (by decide +kernel : decode prog_10_method_30_code 53 = .ok (.goto 32, 3)) (by decide) ?_
        refine g_sub (L' := [some (.ref 0), none, none]) ⟨rfl, trivial⟩ ?_
        refine it_ok hT (by omega) (fun hC => ⟨rfl, ?_⟩) (fun hC => ⟨rfl, ?_⟩) hR
        · have e9 : itm (Bt σ) t f q = .inr (nx (Bt σ) t a50, upd f 5 (nI (vl (Bt σ) t a27))) := by simp only [itm, beK, laK, hk, hl, e27, if_pos i50, e50, lm, stK, if_pos hC]
          rw [e9]
          exact ⟨(nx_b (by omega)).2.1, rfl⟩
        · have e9 : itm (Bt σ) t f q = .inl a50 := by simp only [itm, beK, laK, hk, hl, e27, if_pos i50, e50, lm, stK, if_neg hC]
          rw [e9]
          exact ⟨by omega, _, rfl⟩
      · refine g_goto (tgt := 85) (by decide +kernel : decode prog_10_method_30_code 53 = .ok (.goto 32, 3)) (by decide) ?_
        refine g_sub (L' := [some (.ref 0), none, none]) ⟨rfl, trivial⟩ ?_
        refine it_w hT (by omega) ⟨rfl, ?_⟩ hR
        have e9 : itm (Bt σ) t f q = .inl a27 := by simp only [itm, beK, laK, hk, hl, e27, if_neg i50, lm, stK]
        rw [e9]
        exact ⟨by omega, _, rfl⟩
    · refine g_top (w := nI 6) (by rw [hl]; rfl) ?_
      refine g_istore_n (L' := [some (.ref 0), some (.int (-1)), some (.int (nI 6))]) (by decide +kernel : decode prog_10_method_30_code 9 = .ok (.istore_n 2, 1)) (Nat.le_of_ble_eq_true rfl) rfl ?_
      refine g_iload_n (by decide +kernel : decode prog_10_method_30_code 10 = .ok (.iload_n 1, 1)) rfl ?_
      refine g_if_lt (tgt := 22) (by decide +kernel : decode prog_10_method_30_code 11 = .ok (.ifCond .lt 11, 3)) (by decide) (fun _ => ?_) (fun h => absurd h (by decide))
      refine g_iload_n (by decide +kernel : decode prog_10_method_30_code 22 = .ok (.iload_n 2, 1)) rfl ?_
      refine g_if_ltN (by decide +kernel : decode prog_10_method_30_code 23 = .ok (.ifCond .lt 33, 3)) (by decide) (by decide) ?_
      refine g_aload_n (by decide +kernel : decode prog_10_method_30_code 26 = .ok (.aload_n 0, 1)) rfl ?_
      obtain ⟨a27, e27, l27⟩ : ∃ z, nx (Bt σ) t q = z ∧ z ≤ t := ⟨_, rfl, (nx_b (by omega)).2.1⟩
      have j27 := en_b (B := Bt σ) l27
      have y27 := vl_b (B := Bt σ) (t := t) (q := a27)
      have k27 := kd_le (Bt σ) t a27
      refine g_callVV [] (by decide +kernel : decode prog_10_method_30_code 27 = .ok (.invokevirtual 94, 3)) lk_Md_94 (m_nextT σ f b hT (by omega) e27) rfl rfl rfl rfl (Nat.le_of_ble_eq_true rfl) (Nat.le_of_ble_eq_true rfl) (fun s27 h27 => ?_)
      obtain rfl := h27
      refine g_aload_n (by decide +kernel : decode prog_10_method_30_code 30 = .ok (.aload_n 0, 1)) rfl ?_
      refine g_iload_n (by decide +kernel : decode prog_10_method_30_code 31 = .ok (.iload_n 2, 1)) rfl ?_
      refine g_iload_n (by decide +kernel : decode prog_10_method_30_code 32 = .ok (.iload_n 2, 1)) rfl ?_
      refine g_iconst (v := nI 3) (by decide +kernel : decode prog_10_method_30_code 33 = .ok (.iconst 3, 1)) (by decide) ?_
      refine g_icmp_eqN (tgt := 43) (by decide +kernel : decode prog_10_method_30_code 34 = .ok (.if_icmp .eq 9, 3)) (by decide) (by decide) (by decide) (fun h => False.elim (by revert h; decide)) (fun _ => ?_)
      refine g_iload_n (by decide +kernel : decode prog_10_method_30_code 37 = .ok (.iload_n 2, 1)) rfl ?_
      refine g_bipush (v := nI 6) (by decide +kernel : decode prog_10_method_30_code 38 = .ok (.bipush 6, 2)) (by decide) ?_
      refine g_icmp_neN (tgt := 48) (by decide +kernel : decode prog_10_method_30_code 40 = .ok (.if_icmp .ne 8, 3)) (by decide) (by decide) (by decide) (fun h => False.elim (by revert h; decide)) (fun _ => ?_)
      refine g_bipush (v := nI 99) (by decide +kernel : decode prog_10_method_30_code 43 = .ok (.bipush 99, 2)) (by decide) ?_
      refine g_goto (tgt := 50) (by decide +kernel : decode prog_10_method_30_code 45 = .ok (.goto 5, 3)) (by decide) ?_
      refine g_callVV [.int (nI 6), .int (nI 99)] (by decide +kernel : decode prog_10_method_30_code 50 = .ok (.invokevirtual 115, 3)) lk_Md_115 (m_num σ f b hT 6 99 (by omega) (by omega) (by omega)) rfl rfl rfl rfl (Nat.le_of_ble_eq_true rfl) (Nat.le_of_ble_eq_true rfl) (fun s50 h50 => ?_)
      rcases h50 with ⟨i50, rfl⟩ | ⟨i50, rfl⟩
      · obtain ⟨a50, e50, l50⟩ : ∃ z, nx (Bt σ) t a27 = z ∧ z ≤ t := ⟨_, rfl, (nx_b (by omega)).2.1⟩
        rw [e50]
        have j50 := en_b (B := Bt σ) l50
        have y50 := vl_b (B := Bt σ) (t := t) (q := a50)
        have k50 := kd_le (Bt σ) t a50
        refine g_goto (tgt := 85) (by decide +kernel : decode prog_10_method_30_code 53 = .ok (.goto 32, 3)) (by decide) ?_
        refine g_sub (L' := [some (.ref 0), none, none]) ⟨rfl, trivial⟩ ?_
        refine it_ok hT (by omega) (fun hC => ⟨rfl, ?_⟩) (fun hC => ⟨rfl, ?_⟩) hR
        · have e9 : itm (Bt σ) t f q = .inr (nx (Bt σ) t a50, upd f 6 (nI (vl (Bt σ) t a27))) := by simp only [itm, beK, laK, hk, hl, e27, if_pos i50, e50, lm, stK, if_pos hC]
          rw [e9]
          exact ⟨(nx_b (by omega)).2.1, rfl⟩
        · have e9 : itm (Bt σ) t f q = .inl a50 := by simp only [itm, beK, laK, hk, hl, e27, if_pos i50, e50, lm, stK, if_neg hC]
          rw [e9]
          exact ⟨by omega, _, rfl⟩
      · refine g_goto (tgt := 85) (by decide +kernel : decode prog_10_method_30_code 53 = .ok (.goto 32, 3)) (by decide) ?_
        refine g_sub (L' := [some (.ref 0), none, none]) ⟨rfl, trivial⟩ ?_
        refine it_w hT (by omega) ⟨rfl, ?_⟩ hR
        have e9 : itm (Bt σ) t f q = .inl a27 := by simp only [itm, beK, laK, hk, hl, e27, if_neg i50, lm, stK]
        rw [e9]
        exact ⟨by omega, _, rfl⟩
  · refine g_top (w := nI k) (by rw [hk]; show nI (0 + k) = nI k; rw [Nat.zero_add]) ?_
    refine g_istore_n (L' := [some (.ref 0), some (.int (nI k)), none]) (by decide +kernel : decode prog_10_method_30_code 4 = .ok (.istore_n 1, 1)) (Nat.le_of_ble_eq_true rfl) rfl ?_
    refine g_aload_n (by decide +kernel : decode prog_10_method_30_code 5 = .ok (.aload_n 0, 1)) rfl ?_
    refine g_callVI [] (by decide +kernel : decode prog_10_method_30_code 6 = .ok (.invokevirtual 131, 3)) lk_Md_131 (m_lawHere σ f b hT hq) rfl rfl rfl rfl (Nat.le_of_ble_eq_true rfl) (Nat.le_of_ble_eq_true rfl) (fun r6 s6 h6 => ?_)
    obtain ⟨rfl, rfl⟩ := h6
    refine g_istore_n (L' := [some (.ref 0), some (.int (nI k)), some (.int (oM 3 (lwW (Bt σ) t q)))]) (by decide +kernel : decode prog_10_method_30_code 9 = .ok (.istore_n 2, 1)) (Nat.le_of_ble_eq_true rfl) rfl ?_
    refine g_iload_n (by decide +kernel : decode prog_10_method_30_code 10 = .ok (.iload_n 1, 1)) rfl ?_
    refine g_if_ltN (by decide +kernel : decode prog_10_method_30_code 11 = .ok (.ifCond .lt 11, 3)) (by decide) (by omega) ?_
    refine g_aload_n (by decide +kernel : decode prog_10_method_30_code 14 = .ok (.aload_n 0, 1)) rfl ?_
    refine g_iload_n (by decide +kernel : decode prog_10_method_30_code 15 = .ok (.iload_n 1, 1)) rfl ?_
    refine g_callVV [.int (nI k)] (by decide +kernel : decode prog_10_method_30_code 16 = .ok (.invokevirtual 134, 3)) lk_Md_134 (m_personHere σ f b hT hI hZ k hq) rfl rfl rfl rfl (Nat.le_of_ble_eq_true rfl) (Nat.le_of_ble_eq_true rfl) (fun s16 h16 => ?_)
    (generalize hp : peK (Bt σ) t f k q = r at h16); rcases r with e | ⟨q2, g⟩
    · obtain ⟨le, g, rfl⟩ := h16
      refine g_goto (tgt := 85) (by decide +kernel : decode prog_10_method_30_code 19 = .ok (.goto 66, 3)) (by decide) ?_
      refine g_sub (L' := [some (.ref 0), none, none]) ⟨rfl, trivial⟩ ?_
      refine it_w hT (by omega) ⟨rfl, ?_⟩ hR
      have e9 : itm (Bt σ) t f q = .inl e := by simp only [itm, beK, laK, hk, hp, lm, stK]
      rw [e9]
      exact ⟨by omega, _, rfl⟩
    · obtain ⟨le, rfl⟩ := h16
      have le : q2 ≤ t := le
      show G (ΛM, mt_Md_itemHere, 6) X (mS (kS σ (nI (kd (Bt σ) t q2)) (nI q2) (nI (en (Bt σ) t q2)) (nI (vl (Bt σ) t q2)) (nI 0)) g b) [some (.ref 0), some (.int (nI k)), some (.int (oM 3 (lwW (Bt σ) t q)))] [] 19
      refine g_goto (tgt := 85) (by decide +kernel : decode prog_10_method_30_code 19 = .ok (.goto 66, 3)) (by decide) ?_
      refine g_sub (L' := [some (.ref 0), none, none]) ⟨rfl, trivial⟩ ?_
      refine it_ok hT (by omega) (fun hC => ⟨rfl, ?_⟩) (fun hC => ⟨rfl, ?_⟩) hR
      · have e9 : itm (Bt σ) t f q = .inr (nx (Bt σ) t q2, g) := by simp only [itm, beK, laK, hk, hp, lm, stK, if_pos hC]
        rw [e9]
        exact ⟨(nx_b (by omega)).2.1, rfl⟩
      · have e9 : itm (Bt σ) t f q = .inl q2 := by simp only [itm, beK, laK, hk, hp, lm, stK, if_neg hC]
        rw [e9]
        exact ⟨by omega, _, rfl⟩
def begR (f : Row) (k : Nat) : Row := fun j => if j < k then nI 0 else f j
def begC (f : Row) (k : Nat) : Row := fun j => if 7 ≤ j ∧ j < 7 + k then nI 3 else f j
theorem begR_s (f : Row) (k : Nat) : upd (begR f k) k (nI 0) = begR f (k + 1) := by
  funext j
  unfold upd begR
  by_cases h : j = k
  · subst h; simp
  · rw [if_neg h]
    by_cases h2 : j < k
    · rw [if_pos h2, if_pos (by omega)]
    · rw [if_neg h2, if_neg (by omega)]
theorem begC_s (f : Row) (k : Nat) : upd (begC f k) (7 + k) (nI 3) = begC f (k + 1) := by
  funext j
  unfold upd begC
  by_cases h : j = 7 + k
  · subst h; rw [if_pos rfl, if_pos (by omega)]
  · rw [if_neg h]
    by_cases h2 : 7 ≤ j ∧ j < 7 + k
    · rw [if_pos h2, if_pos (by omega)]
    · rw [if_neg h2, if_neg (by omega)]
theorem begR_0 (f : Row) : begR f 0 = f := by funext j; simp [begR]
theorem begC_0 (f : Row) : begC f 0 = f := by
  funext j; unfold begC; rw [if_neg (by omega)]
/-- as at first; what is drawn by stays -/
def beg (f : Row) : Row := begC (upd (upd (upd (upd (upd (begR f 67) 2 (f 2)) 3 (nI 60)) 4 (nI 2)) 5 (nI 1)) 6 (nI 20)) 12
theorem beg_inv (f : Row) : Inv (beg f) ∧ nn (beg f) = 0 ∧ Zf (beg f) ∧ beg f 2 = f 2 ∧ beg f 1 = nI 0 ∧ beg f 0 = nI 0 ∧ (∀ i, i < 4 → beg f (3 + i) = (roV 0).getD i 0) ∧ (∀ p, p < 12 → beg f (7 + p) = nI 3) := by
  have h0 : beg f 0 = nI 0 := rfl
  have hn : nn (beg f) = 0 := by show tn (beg f 0) = 0; rw [h0]; rfl
  have hl : ∀ i, i < 4 → beg f (3 + i) = (roV 0).getD i 0 := by
    intro i hi
    rcases (show i = 0 ∨ i = 1 ∨ i = 2 ∨ i = 3 by omega) with rfl | rfl | rfl | rfl <;> rfl
  have hc : ∀ p, p < 12 → beg f (7 + p) = nI 3 := by
    intro p hp
    unfold beg begC
    rw [if_pos (by omega)]
  refine ⟨⟨by rw [h0]; exact Rng.of (by decide), fun o ho => by omega, fun i hi => ?_, fun p hp => by rw [hc p hp]; exact Rng.of (by decide)⟩, hn, fun j h1 h2 => ?_, rfl, rfl, h0, hl, hc⟩
  · rw [hl i hi]
    rcases (show i = 0 ∨ i = 1 ∨ i = 2 ∨ i = 3 by omega) with rfl | rfl | rfl | rfl
    · exact ⟨60, by decide, rfl⟩
    · exact ⟨2, by decide, rfl⟩
    · exact ⟨1, by decide, rfl⟩
    · exact ⟨20, by decide, rfl⟩
  · rw [hn] at h1
    unfold beg begC
    rw [if_neg (by omega), upd_n (by omega), upd_n (by omega), upd_n (by omega), upd_n (by omega), upd_n (by omega)]
    unfold begR
    rw [if_pos (by omega)]
set_option maxRecDepth 20000 in
theorem m_beg2 {X : CX} {σ : Store} {f b : Row} : ∀ (b9 k : Nat), k ≤ 12 → 12 - k < b9 → Rt (ΛM, mt_Md_begins, 0) (PU (mS σ (begC f 12) b)) X → G (ΛM, mt_Md_begins, 0) X (mS σ (begC f k) b) [some (.ref 0), none, some (.int (nI k))] [] 68 := by
  intro b9
  induction b9 with
  | zero => intro k hk hb hR; omega
  | succ b9 ih =>
  intro k hk hb hR
  refine g_iload_n (by decide +kernel : decode prog_10_method_2_code 68 = .ok (.iload_n 2, 1)) rfl ?_
  refine g_bipush (v := nI 12) (by decide +kernel : decode prog_10_method_2_code 69 = .ok (.bipush 12, 2)) (by decide) ?_
  refine g_icmp_geN (tgt := 90) (by decide +kernel : decode prog_10_method_2_code 71 = .ok (.if_icmp .ge 19, 3)) (by decide) (by omega) (by decide) (fun h71 => ?_) (fun h71 => ?_)
  · obtain rfl : k = 12 := by omega
    exact g_vret hR (by decide +kernel : decode prog_10_method_2_code 90 = .ok (.return_, 1)) rfl ⟨rfl, rfl⟩
  · refine g_aload_n (by decide +kernel : decode prog_10_method_2_code 74 = .ok (.aload_n 0, 1)) rfl ?_
    refine g_getR (by decide +kernel : decode prog_10_method_2_code 75 = .ok (.getfield 7, 3)) fl_Md_7 rfl rfl ?_
    refine g_bipush (v := nI 7) (by decide +kernel : decode prog_10_method_2_code 78 = .ok (.bipush 7, 2)) (by decide) ?_
    refine g_iload_n (by decide +kernel : decode prog_10_method_2_code 80 = .ok (.iload_n 2, 1)) rfl ?_
    refine g_iaddN (by decide +kernel : decode prog_10_method_2_code 81 = .ok (.iadd, 1)) ?_
    refine g_iconst (v := nI 3) (by decide +kernel : decode prog_10_method_2_code 82 = .ok (.iconst 3, 1)) (by decide) ?_
    refine g_iastore (a := 7 + k) (by decide +kernel : decode prog_10_method_2_code 83 = .ok (.iastore, 1)) rfl rfl (by omega) (by decide) ?_
    refine g_sto (mS_u1 _ _ _ _ _) ?_
    refine g_iincN (n := 1) (L' := [some (.ref 0), none, some (.int (nI (k + 1)))]) (by decide +kernel : decode prog_10_method_2_code 84 = .ok (.iinc 2 1, 3)) rfl (by decide) (Nat.le_of_ble_eq_true rfl) rfl ?_
    refine g_goto (tgt := 68) (by decide +kernel : decode prog_10_method_2_code 87 = .ok (.goto (-19), 3)) (by decide) ?_
    rw [begC_s]
    exact ih (k + 1) (by omega) (by omega) hR
set_option maxRecDepth 20000 in
theorem m_beg1 {X : CX} {σ : Store} {f b : Row} : ∀ (b9 k : Nat), k ≤ 67 → 67 - k < b9 → Rt (ΛM, mt_Md_begins, 0) (PU (mS σ (beg f) b)) X → G (ΛM, mt_Md_begins, 0) X (mS σ (begR f k) b) [some (.ref 0), some (.int (f 2)), some (.int (nI k))] [] 9 := by
  intro b9
  induction b9 with
  | zero => intro k hk hb hR; omega
  | succ b9 ih =>
  intro k hk hb hR
  refine g_iload_n (by decide +kernel : decode prog_10_method_2_code 9 = .ok (.iload_n 2, 1)) rfl ?_
  refine g_bipush (v := nI 67) (by decide +kernel : decode prog_10_method_2_code 10 = .ok (.bipush 67, 2)) (by decide) ?_
  refine g_icmp_geN (tgt := 28) (by decide +kernel : decode prog_10_method_2_code 12 = .ok (.if_icmp .ge 16, 3)) (by decide) (by omega) (by decide) (fun h12 => ?_) (fun h12 => ?_)
  · refine g_aload_n (by decide +kernel : decode prog_10_method_2_code 28 = .ok (.aload_n 0, 1)) rfl ?_
    refine g_getR (by decide +kernel : decode prog_10_method_2_code 29 = .ok (.getfield 7, 3)) fl_Md_7 rfl rfl ?_
    refine g_iconst (v := nI 2) (by decide +kernel : decode prog_10_method_2_code 32 = .ok (.iconst 2, 1)) (by decide) ?_
    refine g_iload_n (by decide +kernel : decode prog_10_method_2_code 33 = .ok (.iload_n 1, 1)) rfl ?_
    refine g_iastore (a := 2) (by decide +kernel : decode prog_10_method_2_code 34 = .ok (.iastore, 1)) rfl rfl (by decide) (by decide) ?_
    refine g_sto (mS_u1 _ _ _ _ _) ?_
    refine g_aload_n (by decide +kernel : decode prog_10_method_2_code 35 = .ok (.aload_n 0, 1)) rfl ?_
    refine g_getR (by decide +kernel : decode prog_10_method_2_code 36 = .ok (.getfield 7, 3)) fl_Md_7 rfl rfl ?_
    refine g_iconst (v := nI 3) (by decide +kernel : decode prog_10_method_2_code 39 = .ok (.iconst 3, 1)) (by decide) ?_
    refine g_bipush (v := nI 60) (by decide +kernel : decode prog_10_method_2_code 40 = .ok (.bipush 60, 2)) (by decide) ?_
    refine g_iastore (a := 3) (by decide +kernel : decode prog_10_method_2_code 42 = .ok (.iastore, 1)) rfl rfl (by decide) (by decide) ?_
    refine g_sto (mS_u1 _ _ _ _ _) ?_
    refine g_aload_n (by decide +kernel : decode prog_10_method_2_code 43 = .ok (.aload_n 0, 1)) rfl ?_
    refine g_getR (by decide +kernel : decode prog_10_method_2_code 44 = .ok (.getfield 7, 3)) fl_Md_7 rfl rfl ?_
    refine g_iconst (v := nI 4) (by decide +kernel : decode prog_10_method_2_code 47 = .ok (.iconst 4, 1)) (by decide) ?_
    refine g_iconst (v := nI 2) (by decide +kernel : decode prog_10_method_2_code 48 = .ok (.iconst 2, 1)) (by decide) ?_
    refine g_iastore (a := 4) (by decide +kernel : decode prog_10_method_2_code 49 = .ok (.iastore, 1)) rfl rfl (by decide) (by decide) ?_
    refine g_sto (mS_u1 _ _ _ _ _) ?_
    refine g_aload_n (by decide +kernel : decode prog_10_method_2_code 50 = .ok (.aload_n 0, 1)) rfl ?_
    refine g_getR (by decide +kernel : decode prog_10_method_2_code 51 = .ok (.getfield 7, 3)) fl_Md_7 rfl rfl ?_
    refine g_iconst (v := nI 5) (by decide +kernel : decode prog_10_method_2_code 54 = .ok (.iconst 5, 1)) (by decide) ?_
    refine g_iconst (v := nI 1) (by decide +kernel : decode prog_10_method_2_code 55 = .ok (.iconst 1, 1)) (by decide) ?_
    refine g_iastore (a := 5) (by decide +kernel : decode prog_10_method_2_code 56 = .ok (.iastore, 1)) rfl rfl (by decide) (by decide) ?_
    refine g_sto (mS_u1 _ _ _ _ _) ?_
    refine g_aload_n (by decide +kernel : decode prog_10_method_2_code 57 = .ok (.aload_n 0, 1)) rfl ?_
    refine g_getR (by decide +kernel : decode prog_10_method_2_code 58 = .ok (.getfield 7, 3)) fl_Md_7 rfl rfl ?_
    refine g_bipush (v := nI 6) (by decide +kernel : decode prog_10_method_2_code 61 = .ok (.bipush 6, 2)) (by decide) ?_
    refine g_bipush (v := nI 20) (by decide +kernel : decode prog_10_method_2_code 63 = .ok (.bipush 20, 2)) (by decide) ?_
    refine g_iastore (a := 6) (by decide +kernel : decode prog_10_method_2_code 65 = .ok (.iastore, 1)) rfl rfl (by decide) (by decide) ?_
    refine g_sto (mS_u1 _ _ _ _ _) ?_
    refine g_iconst (v := nI 0) (by decide +kernel : decode prog_10_method_2_code 66 = .ok (.iconst 0, 1)) (by decide) ?_
    refine g_istore_n (L' := [some (.ref 0), some (.int (f 2)), some (.int (nI 0))]) (by decide +kernel : decode prog_10_method_2_code 67 = .ok (.istore_n 2, 1)) (Nat.le_of_ble_eq_true rfl) rfl ?_
    obtain rfl : k = 67 := by omega
    refine g_sub (L' := [some (.ref 0), none, some (.int (nI 0))]) ⟨rfl, rfl, trivial⟩ ?_
    refine g_sto (show _ = mS σ (begC (upd (upd (upd (upd (upd (begR f 67) 2 (f 2)) 3 (nI 60)) 4 (nI 2)) 5 (nI 1)) 6 (nI 20)) 0) b by rw [begC_0]) ?_
    exact m_beg2 13 0 (by decide) (by decide) hR
  · refine g_aload_n (by decide +kernel : decode prog_10_method_2_code 15 = .ok (.aload_n 0, 1)) rfl ?_
    refine g_getR (by decide +kernel : decode prog_10_method_2_code 16 = .ok (.getfield 7, 3)) fl_Md_7 rfl rfl ?_
    refine g_iload_n (by decide +kernel : decode prog_10_method_2_code 19 = .ok (.iload_n 2, 1)) rfl ?_
    refine g_iconst (v := nI 0) (by decide +kernel : decode prog_10_method_2_code 20 = .ok (.iconst 0, 1)) (by decide) ?_
    refine g_iastore (a := k) (by decide +kernel : decode prog_10_method_2_code 21 = .ok (.iastore, 1)) rfl rfl (by omega) (by decide) ?_
    refine g_sto (mS_u1 _ _ _ _ _) ?_
    refine g_iincN (n := 1) (L' := [some (.ref 0), some (.int (f 2)), some (.int (nI (k + 1)))]) (by decide +kernel : decode prog_10_method_2_code 22 = .ok (.iinc 2 1, 3)) rfl (by decide) (Nat.le_of_ble_eq_true rfl) rfl ?_
    refine g_goto (tgt := 9) (by decide +kernel : decode prog_10_method_2_code 25 = .ok (.goto (-16), 3)) (by decide) ?_
    rw [begR_s]
    exact ih (k + 1) (by omega) (by omega) hR
set_option maxRecDepth 20000 in
theorem m_begins (σ : Store) (f b : Row)  : Ct ΛM mt_Md_begins 0 [.ref 0] (mS σ f b) (PU (mS σ (beg f) b)) := by
  refine Ct.of (by decide) (Nat.le_of_ble_eq_true rfl) (fun X hR => ?_)
  show G (ΛM, mt_Md_begins, 0) X (mS σ f b) [some (.ref 0), none, none] [] 0
  refine g_aload_n (by decide +kernel : decode prog_10_method_2_code 0 = .ok (.aload_n 0, 1)) rfl ?_
  refine g_getR (by decide +kernel : decode prog_10_method_2_code 1 = .ok (.getfield 7, 3)) fl_Md_7 rfl rfl ?_
  refine g_iconst (v := nI 2) (by decide +kernel : decode prog_10_method_2_code 4 = .ok (.iconst 2, 1)) (by decide) ?_
  refine g_iaload (a := 2) (by decide +kernel : decode prog_10_method_2_code 5 = .ok (.iaload, 1)) rfl rfl (by decide) (by decide) ?_
  refine g_top (w := f 2) (rfl) ?_
  refine g_istore_n (L' := [some (.ref 0), some (.int (f 2)), none]) (by decide +kernel : decode prog_10_method_2_code 6 = .ok (.istore_n 1, 1)) (Nat.le_of_ble_eq_true rfl) rfl ?_
  refine g_iconst (v := nI 0) (by decide +kernel : decode prog_10_method_2_code 7 = .ok (.iconst 0, 1)) (by decide) ?_
  refine g_istore_n (L' := [some (.ref 0), some (.int (f 2)), some (.int (nI 0))]) (by decide +kernel : decode prog_10_method_2_code 8 = .ok (.istore_n 2, 1)) (Nat.le_of_ble_eq_true rfl) rfl ?_
  refine g_sto (show _ = mS σ (begR f 0) b by rw [begR_0]) ?_
  exact m_beg1 68 0 (by decide) (by decide) hR
def PKK (σ : Store) (f b : Row) (r : Nat ⊕ Row) : Int32 → Store → Prop := fun v σ' => match r with
  | .inl e => v = -100 - nI e ∧ ∃ k q z u w, σ' = mS (s_up (kS σ k q z u w) 0 6 (nI 0)) f b
  | .inr g => v = g 0 ∧ ∃ k q z u w, σ' = mS (s_up (s_up (kS σ k q z u w) 0 6 (nI 0)) 0 14 (nI 0)) g b
theorem mS_r1 (σ : Store) (f b g : Row) : s_row (mS σ f b) 1 g = mS σ g b := by
  funext k
  unfold mS s_row
  by_cases h : k = 1
  · subst h; rfl
  · simp [h]
theorem mS_r4 (σ : Store) (f b g : Row) : s_row (mS σ f b) 4 g = mS (s_row σ 4 g) f b := by
  funext k
  unfold mS s_row
  by_cases h : k = 4
  · subst h; rfl
  · simp [h]
set_option maxRecDepth 20000 in
theorem q_park_lp {X : CX} {σ : Store} {t : Nat} (hT : TP σ t) {f b : Row} (h4 : σ 4 = f) : ∀ (b9 q : Nat) (g : Row), q ≤ t → t - q < b9 → Inv g → Zf g → Rt (ΛM, mt_Md_park, 7) (PI (PKK σ f b (prK (Bt σ) t b9 q g))) X → G (ΛM, mt_Md_park, 7) X (mS (kS σ (nI (kd (Bt σ) t q)) (nI q) (nI (en (Bt σ) t q)) (nI (vl (Bt σ) t q)) (nI 0)) g b) [some (.ref 0)] [] 29 := by
  have h200 := hT.2.1
  intro b9
  induction b9 with
  | zero => intro q g hq hb; omega
  | succ b9 ih =>
  intro q g hq hb hI hZ hR
  have hkd := kd_le (Bt σ) t q
  refine g_aload_n (by decide +kernel : decode prog_10_method_31_code 29 = .ok (.aload_n 0, 1)) rfl ?_
  refine g_getI (by decide +kernel : decode prog_10_method_31_code 30 = .ok (.getfield 90, 3)) fl_Md_90.get rfl rfl ?_
  refine g_top (w := nI 0) (rfl) ?_
  refine g_if_neN (tgt := 50) (by decide +kernel : decode prog_10_method_31_code 33 = .ok (.ifCond .ne 17, 3)) (by decide) (by decide) (fun h => False.elim (by revert h; decide)) (fun _ => ?_)
  refine g_aload_n (by decide +kernel : decode prog_10_method_31_code 36 = .ok (.aload_n 0, 1)) rfl ?_
  refine g_getI (by decide +kernel : decode prog_10_method_31_code 37 = .ok (.getfield 84, 3)) fl_Md_84.get rfl rfl ?_
  refine g_top (w := nI (kd (Bt σ) t q)) (rfl) ?_
  refine g_if_eqN (tgt := 50) (by decide +kernel : decode prog_10_method_31_code 40 = .ok (.ifCond .eq 10, 3)) (by decide) (by omega) (fun h40 => ?_) (fun h40 => ?_)
  · refine g_aload_n (by decide +kernel : decode prog_10_method_31_code 50 = .ok (.aload_n 0, 1)) rfl ?_
    refine g_iconst (v := nI 0) (by decide +kernel : decode prog_10_method_31_code 51 = .ok (.iconst 0, 1)) (by decide) ?_
    refine g_putI (by decide +kernel : decode prog_10_method_31_code 52 = .ok (.putfield 61, 3)) fl_Md_61 rfl rfl ?_
    refine g_sto (mS_uk _ _ _ _ _ (by decide) (by decide)) ?_
    refine g_aload_n (by decide +kernel : decode prog_10_method_31_code 55 = .ok (.aload_n 0, 1)) rfl ?_
    refine g_getI (by decide +kernel : decode prog_10_method_31_code 56 = .ok (.getfield 90, 3)) fl_Md_90.get rfl rfl ?_
    refine g_top (w := nI 0) (rfl) ?_
    refine g_if_eqN (tgt := 81) (by decide +kernel : decode prog_10_method_31_code 59 = .ok (.ifCond .eq 22, 3)) (by decide) (by decide) (fun _ => ?_) (fun h => False.elim (by revert h; decide))
    refine g_aload_n (by decide +kernel : decode prog_10_method_31_code 81 = .ok (.aload_n 0, 1)) rfl ?_
    refine g_iconst (v := nI 0) (by decide +kernel : decode prog_10_method_31_code 82 = .ok (.iconst 0, 1)) (by decide) ?_
    refine g_putI (by decide +kernel : decode prog_10_method_31_code 83 = .ok (.putfield 148, 3)) fl_Md_148 rfl rfl ?_
    refine g_sto (mS_uk _ _ _ _ _ (by decide) (by decide)) ?_
    refine g_aload_n (by decide +kernel : decode prog_10_method_31_code 86 = .ok (.aload_n 0, 1)) rfl ?_
    refine g_getR (by decide +kernel : decode prog_10_method_31_code 87 = .ok (.getfield 7, 3)) fl_Md_7 rfl rfl ?_
    refine g_iconst (v := nI 0) (by decide +kernel : decode prog_10_method_31_code 90 = .ok (.iconst 0, 1)) (by decide) ?_
    refine g_iaload (a := 0) (by decide +kernel : decode prog_10_method_31_code 91 = .ok (.iaload, 1)) rfl rfl (by decide) (by decide) ?_
    refine g_top (w := g 0) (rfl) ?_
    have e9 : prK (Bt σ) t (b9 + 1) q g = .inr g := by unfold prK; rw [if_pos h40]
    rw [e9] at hR
    exact g_iret hR (by decide +kernel : decode prog_10_method_31_code 92 = .ok (.ireturn, 1)) rfl ⟨_, rfl, rfl, _, _, _, _, _, rfl⟩
  · refine g_aload_n (by decide +kernel : decode prog_10_method_31_code 43 = .ok (.aload_n 0, 1)) rfl ?_
    have hok := itm_ok (B := Bt σ) hI hZ hq h40
    refine g_callVV [] (by decide +kernel : decode prog_10_method_31_code 44 = .ok (.invokevirtual 145, 3)) lk_Md_145 (m_itemHere σ g b hT hI hZ hq) rfl rfl rfl rfl (Nat.le_of_ble_eq_true rfl) (Nat.le_of_ble_eq_true rfl) (fun s44 h44 => ?_)
    (generalize hp : itm (Bt σ) t g q = r at h44 hok); rcases r with e | ⟨q2, g2⟩
    · obtain ⟨le, g2, rfl⟩ := h44
      refine g_goto (tgt := 29) (by decide +kernel : decode prog_10_method_31_code 47 = .ok (.goto (-18), 3)) (by decide) ?_
      refine g_aload_n (by decide +kernel : decode prog_10_method_31_code 29 = .ok (.aload_n 0, 1)) rfl ?_
      refine g_getI (by decide +kernel : decode prog_10_method_31_code 30 = .ok (.getfield 90, 3)) fl_Md_90.get rfl rfl ?_
      refine g_top (w := nI 1) (rfl) ?_
      refine g_if_neN (tgt := 50) (by decide +kernel : decode prog_10_method_31_code 33 = .ok (.ifCond .ne 17, 3)) (by decide) (by decide) (fun _ => ?_) (fun h => False.elim (by revert h; decide))
      refine g_aload_n (by decide +kernel : decode prog_10_method_31_code 50 = .ok (.aload_n 0, 1)) rfl ?_
      refine g_iconst (v := nI 0) (by decide +kernel : decode prog_10_method_31_code 51 = .ok (.iconst 0, 1)) (by decide) ?_
      refine g_putI (by decide +kernel : decode prog_10_method_31_code 52 = .ok (.putfield 61, 3)) fl_Md_61 rfl rfl ?_
      refine g_sto (mS_uk _ _ _ _ _ (by decide) (by decide)) ?_
      refine g_aload_n (by decide +kernel : decode prog_10_method_31_code 55 = .ok (.aload_n 0, 1)) rfl ?_
      refine g_getI (by decide +kernel : decode prog_10_method_31_code 56 = .ok (.getfield 90, 3)) fl_Md_90.get rfl rfl ?_
      refine g_top (w := nI 1) (rfl) ?_
      refine g_if_eqN (tgt := 81) (by decide +kernel : decode prog_10_method_31_code 59 = .ok (.ifCond .eq 22, 3)) (by decide) (by decide) (fun h => False.elim (by revert h; decide)) (fun _ => ?_)
      refine g_aload_n (by decide +kernel : decode prog_10_method_31_code 62 = .ok (.aload_n 0, 1)) rfl ?_
      refine g_getR (by decide +kernel : decode prog_10_method_31_code 63 = .ok (.getfield 19, 3)) fl_Md_19 rfl rfl ?_
      refine g_aload_n (by decide +kernel : decode prog_10_method_31_code 66 = .ok (.aload_n 0, 1)) rfl ?_
      refine g_getR (by decide +kernel : decode prog_10_method_31_code 67 = .ok (.getfield 7, 3)) fl_Md_7 rfl rfl ?_
      refine g_callSV [.ref 4, .ref 1] (by decide +kernel : decode prog_10_method_31_code 70 = .ok (.invokestatic 141, 3)) lk_Md_141 (m_cp_4_1 (mS (s_up (kS σ (nI (kd (Bt σ) t e)) (nI e) (nI (en (Bt σ) t e)) (nI (vl (Bt σ) t e)) (nI 1)) 0 6 (nI 0)) g2 b)) rfl rfl (Nat.le_of_ble_eq_true rfl) (Nat.le_of_ble_eq_true rfl) (fun s70 h70 => ?_)
      obtain rfl := h70
      refine g_sto (show _ = mS (s_up (kS σ (nI (kd (Bt σ) t e)) (nI e) (nI (en (Bt σ) t e)) (nI (vl (Bt σ) t e)) (nI 1)) 0 6 (nI 0)) f b from (mS_r1 _ _ _ _).trans (congrArg (fun z => mS (s_up (kS σ (nI (kd (Bt σ) t e)) (nI e) (nI (en (Bt σ) t e)) (nI (vl (Bt σ) t e)) (nI 1)) 0 6 (nI 0)) z b) h4)) ?_
      refine g_bipush (v := (-100)) (by decide +kernel : decode prog_10_method_31_code 73 = .ok (.bipush (-100), 2)) (by decide) ?_
      refine g_aload_n (by decide +kernel : decode prog_10_method_31_code 75 = .ok (.aload_n 0, 1)) rfl ?_
      refine g_getI (by decide +kernel : decode prog_10_method_31_code 76 = .ok (.getfield 70, 3)) fl_Md_70.get rfl rfl ?_
      refine g_top (w := nI e) (rfl) ?_
      refine g_isub (by decide +kernel : decode prog_10_method_31_code 79 = .ok (.isub, 1)) ?_
      have e9 : prK (Bt σ) t (b9 + 1) q g = .inl e := by unfold prK; rw [if_neg h40, hp]
      rw [e9] at hR
      exact g_iret hR (by decide +kernel : decode prog_10_method_31_code 80 = .ok (.ireturn, 1)) rfl ⟨_, rfl, rfl, _, _, _, _, _, rfl⟩
    · obtain ⟨le, rfl⟩ := h44
      obtain ⟨o1, o2, o3, o4⟩ := hok
      show G (ΛM, mt_Md_park, 7) X (mS (kS σ (nI (kd (Bt σ) t q2)) (nI q2) (nI (en (Bt σ) t q2)) (nI (vl (Bt σ) t q2)) (nI 0)) g2 b) [some (.ref 0)] [] 47
      refine g_goto (tgt := 29) (by decide +kernel : decode prog_10_method_31_code 47 = .ok (.goto (-18), 3)) (by decide) ?_
      have e9 : prK (Bt σ) t (b9 + 1) q g = prK (Bt σ) t b9 q2 g2 := by rw [prK, if_neg h40, hp]
      rw [e9] at hR
      exact ih q2 g2 o2 (by omega) o3 o4 hR
/-- what the text makes of the park -/
def parkP (σ : Store) (t : Nat) (f : Row) : Nat ⊕ Row := prK (Bt σ) t (t + 1) (sk (Bt σ) t 0) (beg f)
set_option maxRecDepth 20000 in
theorem q_park (σ : Store) (f b : Row) {t : Nat} (hT : TP σ t) : Ct ΛM mt_Md_park 7 [.ref 0] (mS σ f b) (PI (PKK (s_row σ 4 f) f b (parkP σ t f))) := by
  refine Ct.of (by decide) (Nat.le_of_ble_eq_true rfl) (fun X hR => ?_)
  show G (ΛM, mt_Md_park, 7) X (mS σ f b) [some (.ref 0)] [] 0
  refine g_aload_n (by decide +kernel : decode prog_10_method_31_code 0 = .ok (.aload_n 0, 1)) rfl ?_
  refine g_getR (by decide +kernel : decode prog_10_method_31_code 1 = .ok (.getfield 7, 3)) fl_Md_7 rfl rfl ?_
  refine g_aload_n (by decide +kernel : decode prog_10_method_31_code 4 = .ok (.aload_n 0, 1)) rfl ?_
  refine g_getR (by decide +kernel : decode prog_10_method_31_code 5 = .ok (.getfield 19, 3)) fl_Md_19 rfl rfl ?_
  refine g_callSV [.ref 1, .ref 4] (by decide +kernel : decode prog_10_method_31_code 8 = .ok (.invokestatic 141, 3)) lk_Md_141 (m_cp_1_4 (mS σ f b)) rfl rfl (Nat.le_of_ble_eq_true rfl) (Nat.le_of_ble_eq_true rfl) (fun s8 h8 => ?_)
  obtain rfl := h8
  refine g_sto (show _ = mS (s_row σ 4 f) f b from mS_r4 _ _ _ _) ?_
  refine g_aload_n (by decide +kernel : decode prog_10_method_31_code 11 = .ok (.aload_n 0, 1)) rfl ?_
  refine g_callVV [] (by decide +kernel : decode prog_10_method_31_code 12 = .ok (.invokevirtual 52, 3)) lk_Md_52 (m_begins (s_row σ 4 f) f b) rfl rfl rfl rfl (Nat.le_of_ble_eq_true rfl) (Nat.le_of_ble_eq_true rfl) (fun s12 h12 => ?_)
  obtain rfl := h12
  refine g_sto (show _ = mS (kS (s_row σ 4 f) ((s_row σ 4 f) 0 7) ((s_row σ 4 f) 0 8) ((s_row σ 4 f) 0 9) ((s_row σ 4 f) 0 10) ((s_row σ 4 f) 0 11)) (beg f) b by rw [kS_self]) ?_
  refine g_aload_n (by decide +kernel : decode prog_10_method_31_code 15 = .ok (.aload_n 0, 1)) rfl ?_
  refine g_iconst (v := nI 0) (by decide +kernel : decode prog_10_method_31_code 16 = .ok (.iconst 0, 1)) (by decide) ?_
  refine g_putI (by decide +kernel : decode prog_10_method_31_code 17 = .ok (.putfield 67, 3)) fl_Md_67 rfl rfl ?_
  refine g_sto (kS_u9 _ _ _ _ _ _ _ _ _) ?_
  refine g_aload_n (by decide +kernel : decode prog_10_method_31_code 20 = .ok (.aload_n 0, 1)) rfl ?_
  refine g_iconst (v := nI 0) (by decide +kernel : decode prog_10_method_31_code 21 = .ok (.iconst 0, 1)) (by decide) ?_
  refine g_putZ (by decide +kernel : decode prog_10_method_31_code 22 = .ok (.putfield 90, 3)) fl_Md_90 rfl rfl (by decide) ?_
  refine g_sto (kS_u11 _ _ _ _ _ _ _ _ _) ?_
  refine g_aload_n (by decide +kernel : decode prog_10_method_31_code 25 = .ok (.aload_n 0, 1)) rfl ?_
  refine g_callVV [] (by decide +kernel : decode prog_10_method_31_code 26 = .ok (.invokevirtual 94, 3)) lk_Md_94 (m_next (s_row σ 4 f) (beg f) b (t := t) hT _ _ _ (nI 0) 0 (Nat.zero_le _)) rfl rfl rfl rfl (Nat.le_of_ble_eq_true rfl) (Nat.le_of_ble_eq_true rfl) (fun s26 h26 => ?_)
  obtain rfl := h26
  have hb := beg_inv f
  exact q_park_lp (σ := s_row σ 4 f) (t := t) hT rfl (t + 1) (sk (Bt σ) t 0) (beg f) (sk_b (Nat.zero_le _)).2 (by omega) hb.1 hb.2.2.1 hR
