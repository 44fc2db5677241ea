/-! THE PROGRAM: by how few; nights; sheets, rows, shelves -/
theorem few_c (f : Row) (o n : Nat) : ∀ N, (few f o n N = none → ∀ i, i < N → yN i f n (19 + 6 * o + 4) = nI 1) ∧ (∀ s, few f o n N = some s → s < N ∧ ¬ yN s f n (19 + 6 * o + 4) = nI 1 ∧ ∀ i, i < N → ¬ yN i f n (19 + 6 * o + 4) = nI 1 → popc s ≤ popc i ∧ (popc i = popc s → s ≤ i)) := by
  intro N
  induction N with
  | zero => exact ⟨fun _ i hi => by omega, fun s h => by cases h⟩
  | succ k ih =>
    by_cases h : yN k f n (19 + 6 * o + 4) = nI 1
    · rw [few_hid h]
      refine ⟨fun q i hi => ?_, fun s hs => ?_⟩
      · by_cases e : i = k
        · subst e; exact h
        · exact ih.1 q i (by omega)
      · obtain ⟨a, b, c⟩ := ih.2 s hs
        refine ⟨by omega, b, fun i hi hn => ?_⟩
        by_cases e : i = k
        · subst e; exact absurd h hn
        · exact c i (by omega) hn
    · cases hq : few f o n k with
      | none =>
        rw [few_none h hq]
        refine ⟨fun q => (by cases q), fun s hs => ?_⟩
        cases hs
        refine ⟨by omega, h, fun i hi hn => ?_⟩
        by_cases e : i = k
        · subst e; exact ⟨Nat.le_refl _, fun _ => Nat.le_refl _⟩
        · exact absurd (ih.1 hq i (by omega)) hn
      | some s' =>
        obtain ⟨a, b, c⟩ := ih.2 s' hq
        by_cases hp : popc k < popc s'
        · rw [few_lt' h hq hp]
          refine ⟨fun q => (by cases q), fun s hs => ?_⟩
          cases hs
          refine ⟨by omega, h, fun i hi hn => ?_⟩
          by_cases e : i = k
          · subst e; exact ⟨Nat.le_refl _, fun _ => Nat.le_refl _⟩
          · have := (c i (by omega) hn).1
            exact ⟨by omega, fun z => by omega⟩
        · rw [few_ge hq hp]
          refine ⟨fun q => (by cases q), fun s hs => ?_⟩
          cases hs
          refine ⟨by omega, b, fun i hi hn => ?_⟩
          by_cases e : i = k
          · subst e; exact ⟨by omega, fun _ => by omega⟩
          · exact c i (by omega) hn
theorem few_is {f : Row} {o n N s : Nat} (h1 : s < N) (h2 : ¬ yN s f n (19 + 6 * o + 4) = nI 1) (h3 : ∀ i, i < N → popc i < popc s → yN i f n (19 + 6 * o + 4) = nI 1) (h4 : ∀ i, i < s → popc i = popc s → yN i f n (19 + 6 * o + 4) = nI 1) : few f o n N = some s := by
  cases hq : few f o n N with
  | none => exact absurd ((few_c f o n N).1 hq s h1) h2
  | some s' =>
    obtain ⟨a, b, c⟩ := (few_c f o n N).2 s' hq
    obtain ⟨c1, c2⟩ := c s h1 h2
    by_cases e : popc s' < popc s
    · exact absurd (h3 s' a e) b
    · have e2 : popc s = popc s' := by omega
      have e3 := c2 e2
      by_cases e4 : s' < s
      · exact absurd (h4 s' e4 e2.symm) b
      · rw [show s' = s by omega]
theorem few_no {f : Row} {o n N : Nat} (h : ∀ i, i < N → yN i f n (19 + 6 * o + 4) = nI 1) : few f o n N = none := by
  cases hq : few f o n N with
  | none => rfl
  | some s' =>
    obtain ⟨a, b, c⟩ := (few_c f o n N).2 s' hq
    exact absurd (h s' a) b
set_option maxRecDepth 100000 in
theorem popc_nn0 : ∀ n : Fin 9, ∀ k : Fin 256, k.val < 2 ^ n.val → popc k.val ≤ n.val := by decide +kernel
theorem popc_nn {n k : Nat} (hn : n ≤ 8) (hk : k < 2 ^ n) : popc k ≤ n := popc_nn0 ⟨n, by omega⟩ ⟨k, Nat.lt_of_lt_of_le hk (Nat.pow_le_pow_right (by decide) hn)⟩ hk
set_option maxRecDepth 20000 in
theorem c_seeksBehind {σ τ : Store} {f : Row} (h : RX σ τ f) {o n m : Nat} (ho : o < nn f) (hn : n < 2 ^ 31) (hm : m < 256) : Ct ΛC mt_Tr_seeksBehind 5 [.ref 28, .int (nI o), .int (nI n), .int (nI m)] σ (PI (fun r σ' => RX σ' τ f ∧ ((r = nI 1 ∧ ¬ yN m f n (19 + 6 * o + 4) = nI 1) ∨ (r = nI 0 ∧ yN m f n (19 + 6 * o + 4) = nI 1)))) := by
  refine Ct.of (by decide) (Nat.le_of_ble_eq_true rfl) (fun X hR => ?_)
  show G (ΛC, mt_Tr_seeksBehind, 5) X σ [some (.ref 28), some (.int (nI o)), some (.int (nI n)), some (.int (nI m))] [] 0
  have hn8 := h.n8
  refine g_aload_n (by decide +kernel : decode prog_8_method_10_code 0 = .ok (.aload_n 0, 1)) rfl ?_
  refine g_getR (by decide +kernel : decode prog_8_method_10_code 1 = .ok (.getfield 18, 3)) fl_Tr_18 rfl rfl ?_
  refine g_aload_n (by decide +kernel : decode prog_8_method_10_code 4 = .ok (.aload_n 0, 1)) rfl ?_
  refine g_getR (by decide +kernel : decode prog_8_method_10_code 5 = .ok (.getfield 12, 3)) fl_Tr_12 rfl rfl ?_
  refine g_callVV [.ref 1] (by decide +kernel : decode prog_8_method_10_code 8 = .ok (.invokevirtual 21, 3)) lk_Tr_21 (c_becTN h) rfl rfl rfl rfl (Nat.le_of_ble_eq_true rfl) (Nat.le_of_ble_eq_true rfl) (fun s8 h8 => ?_)
  obtain ⟨g8, u8⟩ := h8
  refine g_aload_n (by decide +kernel : decode prog_8_method_10_code 11 = .ok (.aload_n 0, 1)) rfl ?_
  refine g_getR (by decide +kernel : decode prog_8_method_10_code 12 = .ok (.getfield 18, 3)) fl_Tr_18 rfl rfl ?_
  refine g_iload_n (by decide +kernel : decode prog_8_method_10_code 15 = .ok (.iload_n 2, 1)) rfl ?_
  refine g_iload_n (by decide +kernel : decode prog_8_method_10_code 16 = .ok (.iload_n 3, 1)) rfl ?_
  refine g_callVV [.int (nI n), .int (nI m)] (by decide +kernel : decode prog_8_method_10_code 17 = .ok (.invokevirtual 55, 3)) lk_Tr_55 (t_passYears g8 u8 (m := m) (n := n) hm (by omega)) rfl rfl rfl rfl (Nat.le_of_ble_eq_true rfl) (Nat.le_of_ble_eq_true rfl) (fun s17 h17 => ?_)
  obtain ⟨g17, u17⟩ := h17
  refine g_aload_n (by decide +kernel : decode prog_8_method_10_code 20 = .ok (.aload_n 0, 1)) rfl ?_
  refine g_getR (by decide +kernel : decode prog_8_method_10_code 21 = .ok (.getfield 18, 3)) fl_Tr_18 rfl rfl ?_
  refine g_iload_n (by decide +kernel : decode prog_8_method_10_code 24 = .ok (.iload_n 1, 1)) rfl ?_
  refine g_callVI [.int (nI o)] (by decide +kernel : decode prog_8_method_10_code 25 = .ok (.invokevirtual 29, 3)) lk_Tr_29 (t_isHidden u17 (o := o) (by rw [(yN_inv (m := m) h.i n).2]; exact ho)) rfl rfl rfl rfl (Nat.le_of_ble_eq_true rfl) (Nat.le_of_ble_eq_true rfl) (fun r25 s25 h25 => ?_)
  rcases h25 with ⟨e25, ⟨rfl, q25⟩ | ⟨rfl, q25⟩⟩
  · have e25 := e25.symm; subst e25
    refine g_if_neN (tgt := 35) (by decide +kernel : decode prog_8_method_10_code 28 = .ok (.ifCond .ne 7, 3)) (by decide) (by decide) (fun _ => ?_) (fun h => False.elim (by revert h; decide))
    refine g_iconst (v := nI 0) (by decide +kernel : decode prog_8_method_10_code 35 = .ok (.iconst 0, 1)) (by decide) ?_
    exact g_zret hR (by decide +kernel : decode prog_8_method_10_code 36 = .ok (.ireturn, 1)) rfl (by decide) ⟨_, rfl, ⟨g17, Or.inr ⟨rfl, q25⟩⟩⟩
  · have e25 := e25.symm; subst e25
    refine g_if_neN (tgt := 35) (by decide +kernel : decode prog_8_method_10_code 28 = .ok (.ifCond .ne 7, 3)) (by decide) (by decide) (fun h => False.elim (by revert h; decide)) (fun _ => ?_)
    refine g_iconst (v := nI 1) (by decide +kernel : decode prog_8_method_10_code 31 = .ok (.iconst 1, 1)) (by decide) ?_
    refine g_goto (tgt := 36) (by decide +kernel : decode prog_8_method_10_code 32 = .ok (.goto 4, 3)) (by decide) ?_
    exact g_zret hR (by decide +kernel : decode prog_8_method_10_code 36 = .ok (.ireturn, 1)) rfl (by decide) ⟨_, rfl, ⟨g17, Or.inl ⟨rfl, q25⟩⟩⟩
set_option maxRecDepth 20000 in
theorem c_few2 {X : CX} {τ : Store} {f : Row} {o n N z : Nat} (ho : o < nn f) (hn : n < 2 ^ 31) (hN2 : N ≤ 256) (hz : z ≤ 9) (h3 : ∀ i, i < N → popc i < z → yN i f n (19 + 6 * o + 4) = nI 1) : ∀ (b9 s : Nat) (σ : Store), RX σ τ f → s ≤ N → N - s < b9 → (∀ i, i < s → popc i = z → yN i f n (19 + 6 * o + 4) = nI 1) → Rt (ΛC, mt_Tr_fewestFinders, 6) (cP τ (oN (few f o n N)) f) X → (∀ σ1, RX σ1 τ f → (∀ i, i < N → popc i = z → yN i f n (19 + 6 * o + 4) = nI 1) → G (ΛC, mt_Tr_fewestFinders, 6) X σ1 [some (.ref 28), some (.int (nI o)), some (.int (nI n)), some (.int (nI N)), some (.int (nI z)), none] [] 64) → G (ΛC, mt_Tr_fewestFinders, 6) X σ [some (.ref 28), some (.int (nI o)), some (.int (nI n)), some (.int (nI N)), some (.int (nI z)), some (.int (nI s))] [] 28 := by
  intro b9
  induction b9 with
  | zero => intro s σ h hk hb hh hR hK; omega
  | succ b9 ih =>
  intro s σ h hk hb hh hR hK
  have hp9 := popc_le s
  refine g_iload (by decide +kernel : decode prog_8_method_9_code 28 = .ok (.iload 5, 2)) rfl ?_
  refine g_iload_n (by decide +kernel : decode prog_8_method_9_code 30 = .ok (.iload_n 3, 1)) rfl ?_
  refine g_icmp_geN (tgt := 64) (by decide +kernel : decode prog_8_method_9_code 31 = .ok (.if_icmp .ge 33, 3)) (by decide) (by omega) (by omega) (fun h31 => ?_) (fun h31 => ?_)
  · refine g_sub (L' := [some (.ref 28), some (.int (nI o)), some (.int (nI n)), some (.int (nI N)), some (.int (nI z)), none]) ⟨rfl, rfl, rfl, rfl, rfl, trivial⟩ ?_
    exact hK _ h (fun i hi e => hh i (by omega) e)
  · refine g_iload (by decide +kernel : decode prog_8_method_9_code 34 = .ok (.iload 5, 2)) rfl ?_
    refine g_callSI [.int (nI s)] (by decide +kernel : decode prog_8_method_9_code 36 = .ok (.invokestatic 65, 3)) lk_Tr_65 (m_bitCount ΛC _ (by omega)) rfl rfl (Nat.le_of_ble_eq_true rfl) (Nat.le_of_ble_eq_true rfl) (fun r36 s36 h36 => ?_)
    obtain ⟨rfl, e36⟩ := h36
    have e36 := e36.symm; subst e36
    refine g_iload (by decide +kernel : decode prog_8_method_9_code 39 = .ok (.iload 4, 2)) rfl ?_
    refine g_icmp_neN (tgt := 58) (by decide +kernel : decode prog_8_method_9_code 41 = .ok (.if_icmp .ne 17, 3)) (by decide) (by omega) (by omega) (fun h41 => ?_) (fun h41 => ?_)
    · refine g_iincN (n := 1) (L' := [some (.ref 28), some (.int (nI o)), some (.int (nI n)), some (.int (nI N)), some (.int (nI z)), some (.int (nI (s + 1)))]) (by decide +kernel : decode prog_8_method_9_code 58 = .ok (.iinc 5 1, 3)) rfl (by decide) (Nat.le_of_ble_eq_true rfl) rfl ?_
      refine g_goto (tgt := 28) (by decide +kernel : decode prog_8_method_9_code 61 = .ok (.goto (-33), 3)) (by decide) ?_
      exact ih (s + 1) _ h (by omega) (by omega) (fun i hi e => by rcases (show i < s ∨ i = s by omega) with w | rfl; exact hh i w e; first | exact q49 | exact absurd e h41) hR hK
    · refine g_aload_n (by decide +kernel : decode prog_8_method_9_code 44 = .ok (.aload_n 0, 1)) rfl ?_
      refine g_iload_n (by decide +kernel : decode prog_8_method_9_code 45 = .ok (.iload_n 1, 1)) rfl ?_
      refine g_iload_n (by decide +kernel : decode prog_8_method_9_code 46 = .ok (.iload_n 2, 1)) rfl ?_
      refine g_iload (by decide +kernel : decode prog_8_method_9_code 47 = .ok (.iload 5, 2)) rfl ?_
      refine g_callVI [.int (nI o), .int (nI n), .int (nI s)] (by decide +kernel : decode prog_8_method_9_code 49 = .ok (.invokevirtual 71, 3)) lk_Tr_71 (c_seeksBehind h (o := o) (n := n) (m := s) ho hn (by omega)) rfl rfl rfl rfl (Nat.le_of_ble_eq_true rfl) (Nat.le_of_ble_eq_true rfl) (fun r49 s49 h49 => ?_)
      rcases h49 with ⟨g49, ⟨rfl, q49⟩ | ⟨rfl, q49⟩⟩
      · refine g_if_eqN (tgt := 58) (by decide +kernel : decode prog_8_method_9_code 52 = .ok (.ifCond .eq 6, 3)) (by decide) (by decide) (fun h => False.elim (by revert h; decide)) (fun _ => ?_)
        refine g_iload (by decide +kernel : decode prog_8_method_9_code 55 = .ok (.iload 5, 2)) rfl ?_
        exact g_iret hR (by decide +kernel : decode prog_8_method_9_code 57 = .ok (.ireturn, 1)) rfl ⟨_, rfl, by rw [few_is (show s < N by omega) q49 (fun i a b => h3 i a (by omega)) (fun i a b => hh i a (by omega))]; rfl, g49⟩
      · refine g_if_eqN (tgt := 58) (by decide +kernel : decode prog_8_method_9_code 52 = .ok (.ifCond .eq 6, 3)) (by decide) (by decide) (fun _ => ?_) (fun h => False.elim (by revert h; decide))
        refine g_iincN (n := 1) (L' := [some (.ref 28), some (.int (nI o)), some (.int (nI n)), some (.int (nI N)), some (.int (nI z)), some (.int (nI (s + 1)))]) (by decide +kernel : decode prog_8_method_9_code 58 = .ok (.iinc 5 1, 3)) rfl (by decide) (Nat.le_of_ble_eq_true rfl) rfl ?_
        refine g_goto (tgt := 28) (by decide +kernel : decode prog_8_method_9_code 61 = .ok (.goto (-33), 3)) (by decide) ?_
        exact ih (s + 1) _ g49 (by omega) (by omega) (fun i hi e => by rcases (show i < s ∨ i = s by omega) with w | rfl; exact hh i w e; first | exact q49 | exact absurd e h41) hR hK
set_option maxRecDepth 20000 in
theorem c_few1 {X : CX} {τ : Store} {f : Row} {o n N : Nat} (ho : o < nn f) (hn : n < 2 ^ 31) (hN : N = 2 ^ nn f) (hN2 : N ≤ 256) : ∀ (b9 z : Nat) (σ : Store), RX σ τ f → z ≤ nn f + 1 → nn f + 1 - z < b9 → (∀ i, i < N → popc i < z → yN i f n (19 + 6 * o + 4) = nI 1) → Rt (ΛC, mt_Tr_fewestFinders, 6) (cP τ (oN (few f o n N)) f) X → G (ΛC, mt_Tr_fewestFinders, 6) X σ [some (.ref 28), some (.int (nI o)), some (.int (nI n)), some (.int (nI N)), some (.int (nI z)), none] [] 13 := by
  intro b9
  induction b9 with
  | zero => intro z σ h hk hb hh hR; omega
  | succ b9 ih =>
  intro z σ h hk hb hh hR
  have hn8 := h.n8
  refine g_iload (by decide +kernel : decode prog_8_method_9_code 13 = .ok (.iload 4, 2)) rfl ?_
  refine g_aload_n (by decide +kernel : decode prog_8_method_9_code 15 = .ok (.aload_n 0, 1)) rfl ?_
  refine g_getR (by decide +kernel : decode prog_8_method_9_code 16 = .ok (.getfield 12, 3)) fl_Tr_12 rfl rfl ?_
  refine g_getI (by decide +kernel : decode prog_8_method_9_code 19 = .ok (.getfield 62, 3)) fl_Tr_62.get rfl rfl ?_
  refine g_top (w := nI (nn f)) (h.n.n) ?_
  refine g_icmp_gtN (tgt := 70) (by decide +kernel : decode prog_8_method_9_code 22 = .ok (.if_icmp .gt 48, 3)) (by decide) (by omega) (by omega) (fun h22 => ?_) (fun h22 => ?_)
  · refine g_bipush (v := (-3)) (by decide +kernel : decode prog_8_method_9_code 70 = .ok (.bipush (-3), 2)) (by decide) ?_
    exact g_iret hR (by decide +kernel : decode prog_8_method_9_code 72 = .ok (.ireturn, 1)) rfl ⟨_, rfl, by rw [few_no (fun i hi => hh i hi (Nat.lt_of_le_of_lt (popc_nn (n := nn f) hn8 (by rw [← hN]; exact hi)) (by omega)))]; rfl, h⟩
  · refine g_iconst (v := nI 0) (by decide +kernel : decode prog_8_method_9_code 25 = .ok (.iconst 0, 1)) (by decide) ?_
    refine g_istore (L' := [some (.ref 28), some (.int (nI o)), some (.int (nI n)), some (.int (nI N)), some (.int (nI z)), some (.int (nI 0))]) (by decide +kernel : decode prog_8_method_9_code 26 = .ok (.istore 5, 2)) (Nat.le_of_ble_eq_true rfl) rfl ?_
    refine g_sub (L' := [some (.ref 28), some (.int (nI o)), some (.int (nI n)), some (.int (nI N)), some (.int (nI z)), some (.int (nI 0))]) ⟨rfl, rfl, rfl, rfl, rfl, rfl, trivial⟩ ?_
    refine c_few2 ho hn hN2 (by omega) hh (N + 1) 0 _ h (by omega) (by omega) (fun i hi => by omega) hR (fun σ1 h1 hh1 => ?_)
    refine g_iincN (n := 1) (L' := [some (.ref 28), some (.int (nI o)), some (.int (nI n)), some (.int (nI N)), some (.int (nI (z + 1))), none]) (by decide +kernel : decode prog_8_method_9_code 64 = .ok (.iinc 4 1, 3)) rfl (by decide) (Nat.le_of_ble_eq_true rfl) rfl ?_
    refine g_goto (tgt := 13) (by decide +kernel : decode prog_8_method_9_code 67 = .ok (.goto (-54), 3)) (by decide) ?_
    exact ih (z + 1) _ h1 (by omega) (by omega) (fun i hi e => by rcases (show popc i < z ∨ popc i = z by omega) with w | w; exact hh i hi w; exact hh1 i hi w) hR
set_option maxRecDepth 20000 in
theorem c_fewestFinders {σ τ : Store} {f : Row} (h : RX σ τ f) {o n : Nat} (ho : o < nn f) (hn : n < 2 ^ 31) : Ct ΛC mt_Tr_fewestFinders 6 [.ref 28, .int (nI o), .int (nI n)] σ (cP τ (oN (few f o n (2 ^ nn f))) f) := by
  refine Ct.of (by decide) (Nat.le_of_ble_eq_true rfl) (fun X hR => ?_)
  show G (ΛC, mt_Tr_fewestFinders, 6) X σ [some (.ref 28), some (.int (nI o)), some (.int (nI n)), none, none, none] [] 0
  have hn8 := h.n8
  obtain ⟨N, hN⟩ : ∃ N, N = 2 ^ nn f := ⟨_, rfl⟩
  have hN2 : N ≤ 256 := by rw [hN]; exact Nat.pow_le_pow_right (n := 2) (by decide) hn8
  rw [← hN] at hR
  refine g_iconst (v := nI 1) (by decide +kernel : decode prog_8_method_9_code 0 = .ok (.iconst 1, 1)) (by decide) ?_
  refine g_aload_n (by decide +kernel : decode prog_8_method_9_code 1 = .ok (.aload_n 0, 1)) rfl ?_
  refine g_getR (by decide +kernel : decode prog_8_method_9_code 2 = .ok (.getfield 12, 3)) fl_Tr_12 rfl rfl ?_
  refine g_getI (by decide +kernel : decode prog_8_method_9_code 5 = .ok (.getfield 62, 3)) fl_Tr_62.get rfl rfl ?_
  refine g_top (w := nI (nn f)) (h.n.n) ?_
  refine g_ishl (by decide +kernel : decode prog_8_method_9_code 8 = .ok (.ishl, 1)) ?_
  refine g_top (w := nI N) (by rw [hN]; exact nI_pow2 ⟨nn f, by omega⟩) ?_
  refine g_istore_n (L' := [some (.ref 28), some (.int (nI o)), some (.int (nI n)), some (.int (nI N)), none, none]) (by decide +kernel : decode prog_8_method_9_code 9 = .ok (.istore_n 3, 1)) (Nat.le_of_ble_eq_true rfl) rfl ?_
  refine g_iconst (v := nI 0) (by decide +kernel : decode prog_8_method_9_code 10 = .ok (.iconst 0, 1)) (by decide) ?_
  refine g_istore (L' := [some (.ref 28), some (.int (nI o)), some (.int (nI n)), some (.int (nI N)), some (.int (nI 0)), none]) (by decide +kernel : decode prog_8_method_9_code 11 = .ok (.istore 4, 2)) (Nat.le_of_ble_eq_true rfl) rfl ?_
  exact c_few1 ho hn hN hN2 (nn f + 2) 0 σ h (by omega) (by omega) (fun i hi e => by omega) hR
set_option maxRecDepth 20000 in
theorem c_nights_lp {X : CX} {τ : Store} {f : Row} {n : Nat} (hn : n < 2 ^ 31) : ∀ (b9 k : Nat) (σ : Store), RX σ τ f → k ≤ n → n - k < b9 → Rt (ΛC, mt_Tr_nightsWithMoreHidden, 5) (cP τ (nI (ngt f n).2) f) X → G (ΛC, mt_Tr_nightsWithMoreHidden, 5) X σ [some (.ref 28), some (.int (nI n)), some (.int (nI ((ngt f k).2))), some (.int ((ngt f k).1)), some (.int (nI k))] [] 13 := by
  intro b9
  induction b9 with
  | zero => intro k σ h hk hb hR; omega
  | succ b9 ih =>
  intro k σ h hk hb hR
  have hc1 := hc_le f
  have hc2 := hc_le (yearT (upd f 2 (ngt f k).1))
  refine g_iload (by decide +kernel : decode prog_8_method_12_code 13 = .ok (.iload 4, 2)) rfl ?_
  refine g_iload_n (by decide +kernel : decode prog_8_method_12_code 15 = .ok (.iload_n 1, 1)) rfl ?_
  refine g_icmp_geN (tgt := 79) (by decide +kernel : decode prog_8_method_12_code 16 = .ok (.if_icmp .ge 63, 3)) (by decide) (by omega) (by omega) (fun h16 => ?_) (fun h16 => ?_)
  · refine g_iload_n (by decide +kernel : decode prog_8_method_12_code 79 = .ok (.iload_n 2, 1)) rfl ?_
    obtain rfl : k = n := by omega
    exact g_iret hR (by decide +kernel : decode prog_8_method_12_code 80 = .ok (.ireturn, 1)) rfl ⟨_, rfl, rfl, h⟩
  · refine g_aload_n (by decide +kernel : decode prog_8_method_12_code 19 = .ok (.aload_n 0, 1)) rfl ?_
    refine g_getR (by decide +kernel : decode prog_8_method_12_code 20 = .ok (.getfield 18, 3)) fl_Tr_18 rfl rfl ?_
    refine g_aload_n (by decide +kernel : decode prog_8_method_12_code 23 = .ok (.aload_n 0, 1)) rfl ?_
    refine g_getR (by decide +kernel : decode prog_8_method_12_code 24 = .ok (.getfield 12, 3)) fl_Tr_12 rfl rfl ?_
    refine g_callVV [.ref 1] (by decide +kernel : decode prog_8_method_12_code 27 = .ok (.invokevirtual 21, 3)) lk_Tr_21 (c_becTN h) rfl rfl rfl rfl (Nat.le_of_ble_eq_true rfl) (Nat.le_of_ble_eq_true rfl) (fun s27 h27 => ?_)
    obtain ⟨g27, u27⟩ := h27
    refine g_aload_n (by decide +kernel : decode prog_8_method_12_code 30 = .ok (.aload_n 0, 1)) rfl ?_
    refine g_getR (by decide +kernel : decode prog_8_method_12_code 31 = .ok (.getfield 18, 3)) fl_Tr_18 rfl rfl ?_
    refine g_iload_n (by decide +kernel : decode prog_8_method_12_code 34 = .ok (.iload_n 3, 1)) rfl ?_
    refine g_putI (by decide +kernel : decode prog_8_method_12_code 35 = .ok (.putfield 83, 3)) fl_Tr_83 rfl rfl ?_
    have p38 := g27.tz u27 ((ngt f k).1)
    refine g_aload_n (by decide +kernel : decode prog_8_method_12_code 38 = .ok (.aload_n 0, 1)) rfl ?_
    refine g_getR (by decide +kernel : decode prog_8_method_12_code 39 = .ok (.getfield 18, 3)) fl_Tr_18 rfl rfl ?_
    refine g_callVV [] (by decide +kernel : decode prog_8_method_12_code 42 = .ok (.invokevirtual 86, 3)) lk_Tr_86 (t_passYearByDraws p38.1 p38.2) rfl rfl rfl rfl (Nat.le_of_ble_eq_true rfl) (Nat.le_of_ble_eq_true rfl) (fun s42 h42 => ?_)
    obtain ⟨g42, u42⟩ := h42
    refine g_aload_n (by decide +kernel : decode prog_8_method_12_code 45 = .ok (.aload_n 0, 1)) rfl ?_
    refine g_getR (by decide +kernel : decode prog_8_method_12_code 46 = .ok (.getfield 18, 3)) fl_Tr_18 rfl rfl ?_
    refine g_getI (by decide +kernel : decode prog_8_method_12_code 49 = .ok (.getfield 83, 3)) fl_Tr_83.get rfl rfl ?_
    refine g_top (w := (yearT (upd f 2 ((ngt f k).1))) 2) (u42.z) ?_
    refine g_istore_n (L' := [some (.ref 28), some (.int (nI n)), some (.int (nI ((ngt f k).2))), some (.int ((yearT (upd f 2 ((ngt f k).1))) 2)), some (.int (nI k))]) (by decide +kernel : decode prog_8_method_12_code 52 = .ok (.istore_n 3, 1)) (Nat.le_of_ble_eq_true rfl) rfl ?_
    refine g_aload_n (by decide +kernel : decode prog_8_method_12_code 53 = .ok (.aload_n 0, 1)) rfl ?_
    refine g_getR (by decide +kernel : decode prog_8_method_12_code 54 = .ok (.getfield 18, 3)) fl_Tr_18 rfl rfl ?_
    refine g_callVI [] (by decide +kernel : decode prog_8_method_12_code 57 = .ok (.invokevirtual 89, 3)) lk_Tr_89 (t_hiddenOnes u42) rfl rfl rfl rfl (Nat.le_of_ble_eq_true rfl) (Nat.le_of_ble_eq_true rfl) (fun r57 s57 h57 => ?_)
    obtain ⟨rfl, e57⟩ := h57
    have e57 := e57.symm; subst e57
    refine g_aload_n (by decide +kernel : decode prog_8_method_12_code 60 = .ok (.aload_n 0, 1)) rfl ?_
    refine g_getR (by decide +kernel : decode prog_8_method_12_code 61 = .ok (.getfield 12, 3)) fl_Tr_12 rfl rfl ?_
    refine g_callVI [] (by decide +kernel : decode prog_8_method_12_code 64 = .ok (.invokevirtual 89, 3)) lk_Tr_89 (n_hiddenOnes g42.n) rfl rfl rfl rfl (Nat.le_of_ble_eq_true rfl) (Nat.le_of_ble_eq_true rfl) (fun r64 s64 h64 => ?_)
    obtain ⟨rfl, e64⟩ := h64
    have e64 := e64.symm; subst e64
    refine g_icmp_leN (tgt := 73) (by decide +kernel : decode prog_8_method_12_code 67 = .ok (.if_icmp .le 6, 3)) (by decide) (by omega) (by omega) (fun h67 => ?_) (fun h67 => ?_)
    · refine g_iincN (n := 1) (L' := [some (.ref 28), some (.int (nI n)), some (.int (nI ((ngt f k).2))), some (.int ((yearT (upd f 2 ((ngt f k).1))) 2)), some (.int (nI (k + 1)))]) (by decide +kernel : decode prog_8_method_12_code 73 = .ok (.iinc 4 1, 3)) rfl (by decide) (Nat.le_of_ble_eq_true rfl) rfl ?_
      refine g_goto (tgt := 13) (by decide +kernel : decode prog_8_method_12_code 76 = .ok (.goto (-63), 3)) (by decide) ?_
      have e1 : (ngt f (k + 1)).2 = (ngt f k).2 := by show _ + (if _ then _ else _) = _; rw [if_neg (by omega), Nat.add_zero]
      refine g_sub (L' := [some (.ref 28), some (.int (nI n)), some (.int (nI ((ngt f (k + 1)).2))), some (.int ((ngt f (k + 1)).1)), some (.int (nI (k + 1)))]) ⟨rfl, rfl, by rw [e1], rfl, rfl, trivial⟩ ?_
      exact ih (k + 1) _ g42 (by omega) (by omega) hR
    · refine g_iincN (n := 1) (L' := [some (.ref 28), some (.int (nI n)), some (.int (nI ((ngt f k).2 + 1))), some (.int ((yearT (upd f 2 ((ngt f k).1))) 2)), some (.int (nI k))]) (by decide +kernel : decode prog_8_method_12_code 70 = .ok (.iinc 2 1, 3)) rfl (by decide) (Nat.le_of_ble_eq_true rfl) rfl ?_
      refine g_iincN (n := 1) (L' := [some (.ref 28), some (.int (nI n)), some (.int (nI ((ngt f k).2 + 1))), some (.int ((yearT (upd f 2 ((ngt f k).1))) 2)), some (.int (nI (k + 1)))]) (by decide +kernel : decode prog_8_method_12_code 73 = .ok (.iinc 4 1, 3)) rfl (by decide) (Nat.le_of_ble_eq_true rfl) rfl ?_
      refine g_goto (tgt := 13) (by decide +kernel : decode prog_8_method_12_code 76 = .ok (.goto (-63), 3)) (by decide) ?_
      have e1 : (ngt f (k + 1)).2 = (ngt f k).2 + 1 := by show _ + (if _ then _ else _) = _; rw [if_pos (by omega)]
      refine g_sub (L' := [some (.ref 28), some (.int (nI n)), some (.int (nI ((ngt f (k + 1)).2))), some (.int ((ngt f (k + 1)).1)), some (.int (nI (k + 1)))]) ⟨rfl, rfl, by rw [e1], rfl, rfl, trivial⟩ ?_
      exact ih (k + 1) _ g42 (by omega) (by omega) hR
set_option maxRecDepth 20000 in
theorem c_nightsWithMoreHidden {σ τ : Store} {f : Row} (h : RX σ τ f) {n : Nat} (hn : n < 2 ^ 31) : Ct ΛC mt_Tr_nightsWithMoreHidden 5 [.ref 28, .int (nI n)] σ (cP τ (nI (ngt f n).2) f) := by
  refine Ct.of (by decide) (Nat.le_of_ble_eq_true rfl) (fun X hR => ?_)
  show G (ΛC, mt_Tr_nightsWithMoreHidden, 5) X σ [some (.ref 28), some (.int (nI n)), none, none, none] [] 0
  have hn8 := h.n8
  refine g_iconst (v := nI 0) (by decide +kernel : decode prog_8_method_12_code 0 = .ok (.iconst 0, 1)) (by decide) ?_
  refine g_istore_n (L' := [some (.ref 28), some (.int (nI n)), some (.int (nI 0)), none, none]) (by decide +kernel : decode prog_8_method_12_code 1 = .ok (.istore_n 2, 1)) (Nat.le_of_ble_eq_true rfl) rfl ?_
  refine g_aload_n (by decide +kernel : decode prog_8_method_12_code 2 = .ok (.aload_n 0, 1)) rfl ?_
  refine g_getR (by decide +kernel : decode prog_8_method_12_code 3 = .ok (.getfield 12, 3)) fl_Tr_12 rfl rfl ?_
  refine g_getI (by decide +kernel : decode prog_8_method_12_code 6 = .ok (.getfield 83, 3)) fl_Tr_83.get rfl rfl ?_
  refine g_top (w := f 2) (h.n.z) ?_
  refine g_istore_n (L' := [some (.ref 28), some (.int (nI n)), some (.int (nI 0)), some (.int (f 2)), none]) (by decide +kernel : decode prog_8_method_12_code 9 = .ok (.istore_n 3, 1)) (Nat.le_of_ble_eq_true rfl) rfl ?_
  refine g_iconst (v := nI 0) (by decide +kernel : decode prog_8_method_12_code 10 = .ok (.iconst 0, 1)) (by decide) ?_
  refine g_istore (L' := [some (.ref 28), some (.int (nI n)), some (.int (nI 0)), some (.int (f 2)), some (.int (nI 0))]) (by decide +kernel : decode prog_8_method_12_code 11 = .ok (.istore 4, 2)) (Nat.le_of_ble_eq_true rfl) rfl ?_
  exact c_nights_lp hn (n + 1) 0 σ h (by omega) (by omega) hR
theorem RX.s0 {σ τ : Store} {f : Row} (h : RX σ τ f) : ShI τ := h.2.2.2.2.1.1
theorem RX.s1 {σ τ : Store} {f : Row} (h : RX σ τ f) {t : Nat} (ht : t < 4) : σ 34 t = τ 8 t := (h.2.2.2.2.1.2 t ht).1
theorem RX.s2 {σ τ : Store} {f : Row} (h : RX σ τ f) {t : Nat} (ht : t < 4) : σ 35 t = τ 9 t := (h.2.2.2.2.1.2 t ht).2.1
theorem RX.s3 {σ τ : Store} {f : Row} (h : RX σ τ f) {t i n : Nat} (ht : t < 4) (e : τ 9 t = nI n) (hn : n ≤ 40) (hi : i < n) : σ 36 (40 * t + i) = τ 10 (40 * t + i) := (h.2.2.2.2.1.2 t ht).2.2 i (by rw [e, tn_nI (by omega)]; exact hi)
set_option maxRecDepth 20000 in
theorem c_isMissing (σ : Store) {t : Nat} (ht : t < 4) : Ct ΛC mt_Sh_isMissing 0 [.ref 33, .int (nI t)] σ (PB σ (σ 34 t = -1)) := by
  refine Ct.of (by decide) (Nat.le_of_ble_eq_true rfl) (fun X hR => ?_)
  show G (ΛC, mt_Sh_isMissing, 0) X σ [some (.ref 33), some (.int (nI t))] [] 0
  refine g_aload_n (by decide +kernel : decode prog_5_method_2_code 0 = .ok (.aload_n 0, 1)) rfl ?_
  refine g_getR (by decide +kernel : decode prog_5_method_2_code 1 = .ok (.getfield 9, 3)) fl_Sh_9 rfl rfl ?_
  refine g_iload_n (by decide +kernel : decode prog_5_method_2_code 4 = .ok (.iload_n 1, 1)) rfl ?_
  refine g_iaload (a := t) (by decide +kernel : decode prog_5_method_2_code 5 = .ok (.iaload, 1)) rfl rfl (by omega) (by decide) ?_
  refine g_iconst (v := (-1)) (by decide +kernel : decode prog_5_method_2_code 6 = .ok (.iconst (-1), 1)) (by decide) ?_
  refine g_icmp_ne (tgt := 14) (by decide +kernel : decode prog_5_method_2_code 7 = .ok (.if_icmp .ne 7, 3)) (by decide) (fun h7 => ?_) (fun h7 => ?_)
  · refine g_iconst (v := nI 0) (by decide +kernel : decode prog_5_method_2_code 14 = .ok (.iconst 0, 1)) (by decide) ?_
    exact g_zret hR (by decide +kernel : decode prog_5_method_2_code 15 = .ok (.ireturn, 1)) rfl (by decide) ⟨_, rfl, ⟨rfl, Or.inr ⟨rfl, h7⟩⟩⟩
  · refine g_iconst (v := nI 1) (by decide +kernel : decode prog_5_method_2_code 10 = .ok (.iconst 1, 1)) (by decide) ?_
    refine g_goto (tgt := 15) (by decide +kernel : decode prog_5_method_2_code 11 = .ok (.goto 4, 3)) (by decide) ?_
    exact g_zret hR (by decide +kernel : decode prog_5_method_2_code 15 = .ok (.ireturn, 1)) rfl (by decide) ⟨_, rfl, ⟨rfl, Or.inl ⟨rfl, h7⟩⟩⟩
set_option maxRecDepth 20000 in
theorem c_hasItem (σ : Store) {t n : Nat} (ht : t < 4) (x : Int32) (e : σ 35 t = nI n) (hn : n ≤ 40) : Ct ΛC mt_Sh_hasItem 0 [.ref 33, .int (nI t), .int x] σ (PB σ (∃ j, j < n ∧ x = nI j)) := by
  refine Ct.of (by decide) (Nat.le_of_ble_eq_true rfl) (fun X hR => ?_)
  show G (ΛC, mt_Sh_hasItem, 0) X σ [some (.ref 33), some (.int (nI t)), some (.int x)] [] 0
  refine g_iload_n (by decide +kernel : decode prog_5_method_3_code 0 = .ok (.iload_n 2, 1)) rfl ?_
  refine g_if_lt (tgt := 18) (by decide +kernel : decode prog_5_method_3_code 1 = .ok (.ifCond .lt 17, 3)) (by decide) (fun h1 => ?_) (fun h1 => ?_)
  · refine g_iconst (v := nI 0) (by decide +kernel : decode prog_5_method_3_code 18 = .ok (.iconst 0, 1)) (by decide) ?_
    exact g_zret hR (by decide +kernel : decode prog_5_method_3_code 19 = .ok (.ireturn, 1)) rfl (by decide) ⟨_, rfl, ⟨rfl, Or.inr ⟨rfl, by first | exact fun q => absurd ((i32_lt x (by omega)).mpr q).1 (Int32.not_le.mpr h1) | exact fun q => absurd ((i32_lt x (by omega)).mpr q).2 (Int32.not_lt.mpr h11)⟩⟩⟩
  · refine g_iload_n (by decide +kernel : decode prog_5_method_3_code 4 = .ok (.iload_n 2, 1)) rfl ?_
    refine g_aload_n (by decide +kernel : decode prog_5_method_3_code 5 = .ok (.aload_n 0, 1)) rfl ?_
    refine g_getR (by decide +kernel : decode prog_5_method_3_code 6 = .ok (.getfield 15, 3)) fl_Sh_15 rfl rfl ?_
    refine g_iload_n (by decide +kernel : decode prog_5_method_3_code 9 = .ok (.iload_n 1, 1)) rfl ?_
    refine g_iaload (a := t) (by decide +kernel : decode prog_5_method_3_code 10 = .ok (.iaload, 1)) rfl rfl (by omega) (by decide) ?_
    refine g_top (w := nI n) (e) ?_
    refine g_icmp_ge (tgt := 18) (by decide +kernel : decode prog_5_method_3_code 11 = .ok (.if_icmp .ge 7, 3)) (by decide) (fun h11 => ?_) (fun h11 => ?_)
    · refine g_iconst (v := nI 0) (by decide +kernel : decode prog_5_method_3_code 18 = .ok (.iconst 0, 1)) (by decide) ?_
      exact g_zret hR (by decide +kernel : decode prog_5_method_3_code 19 = .ok (.ireturn, 1)) rfl (by decide) ⟨_, rfl, ⟨rfl, Or.inr ⟨rfl, by first | exact fun q => absurd ((i32_lt x (by omega)).mpr q).1 (Int32.not_le.mpr h1) | exact fun q => absurd ((i32_lt x (by omega)).mpr q).2 (Int32.not_lt.mpr h11)⟩⟩⟩
    · refine g_iconst (v := nI 1) (by decide +kernel : decode prog_5_method_3_code 14 = .ok (.iconst 1, 1)) (by decide) ?_
      refine g_goto (tgt := 19) (by decide +kernel : decode prog_5_method_3_code 15 = .ok (.goto 4, 3)) (by decide) ?_
      exact g_zret hR (by decide +kernel : decode prog_5_method_3_code 19 = .ok (.ireturn, 1)) rfl (by decide) ⟨_, rfl, ⟨rfl, Or.inl ⟨rfl, (i32_lt x (by omega)).mp ⟨Int32.not_lt.mp h1, Int32.not_le.mp h11⟩⟩⟩⟩
set_option maxRecDepth 20000 in
theorem c_read (σ : Store) {t i : Nat} (ht : t < 4) (hi : i < 40) : Ct ΛC mt_Sh_read 0 [.ref 33, .int (nI t), .int (nI i)] σ (PF (σ 36 (40 * t + i)) σ) := by
  refine Ct.of (by decide) (Nat.le_of_ble_eq_true rfl) (fun X hR => ?_)
  show G (ΛC, mt_Sh_read, 0) X σ [some (.ref 33), some (.int (nI t)), some (.int (nI i))] [] 0
  refine g_aload_n (by decide +kernel : decode prog_5_method_6_code 0 = .ok (.aload_n 0, 1)) rfl ?_
  refine g_getR (by decide +kernel : decode prog_5_method_6_code 1 = .ok (.getfield 18, 3)) fl_Sh_18 rfl rfl ?_
  refine g_iload_n (by decide +kernel : decode prog_5_method_6_code 4 = .ok (.iload_n 1, 1)) rfl ?_
  refine g_bipush (v := nI 40) (by decide +kernel : decode prog_5_method_6_code 5 = .ok (.bipush 40, 2)) (by decide) ?_
  refine g_imulN (by decide +kernel : decode prog_5_method_6_code 7 = .ok (.imul, 1)) ?_
  refine g_iload_n (by decide +kernel : decode prog_5_method_6_code 8 = .ok (.iload_n 2, 1)) rfl ?_
  refine g_iaddN (by decide +kernel : decode prog_5_method_6_code 9 = .ok (.iadd, 1)) ?_
  refine g_iaload (a := 40 * t + i) (by decide +kernel : decode prog_5_method_6_code 10 = .ok (.iaload, 1)) rfl (by rw [Nat.mul_comm t 40]) (by omega) (by decide) ?_
  exact g_iret hR (by decide +kernel : decode prog_5_method_6_code 11 = .ok (.ireturn, 1)) rfl ⟨_, rfl, ⟨rfl, rfl⟩⟩
set_option maxRecDepth 20000 in
theorem c_narrowed (σ : Store) (v : Int32) {k : Nat} (hk : k ≤ 3) : Ct ΛC mt_Sh_narrowed 0 [.int v, .int (nI k)] σ (PF (nar (nI k) v) σ) := by
  refine Ct.of (by decide) (Nat.le_of_ble_eq_true rfl) (fun X hR => ?_)
  show G (ΛC, mt_Sh_narrowed, 0) X σ [some (.int v), some (.int (nI k))] [] 0
  refine g_iload_n (by decide +kernel : decode prog_5_method_8_code 0 = .ok (.iload_n 1, 1)) rfl ?_
  rcases (show k = 0 ∨ k = 1 ∨ k = 2 ∨ k = 3 by omega) with rfl | rfl | rfl | rfl
  · refine g_lookup (x := nI 0) (off := 27) (tgt := 28) (by decide +kernel : decode prog_5_method_8_code 1 = .ok (.lookupswitch 33 #[(0, 27), (1, 30)], 27)) (by decide) (by decide) (by decide) ?_
    refine g_iload_n (by decide +kernel : decode prog_5_method_8_code 28 = .ok (.iload_n 0, 1)) rfl ?_
    refine g_i2b (by decide +kernel : decode prog_5_method_8_code 29 = .ok (.i2b, 1)) ?_
    exact g_iret hR (by decide +kernel : decode prog_5_method_8_code 30 = .ok (.ireturn, 1)) rfl ⟨_, rfl, ⟨rfl, rfl⟩⟩
  · refine g_lookup (x := nI 1) (off := 30) (tgt := 31) (by decide +kernel : decode prog_5_method_8_code 1 = .ok (.lookupswitch 33 #[(0, 27), (1, 30)], 27)) (by decide) (by decide) (by decide) ?_
    refine g_iload_n (by decide +kernel : decode prog_5_method_8_code 31 = .ok (.iload_n 0, 1)) rfl ?_
    refine g_i2s (by decide +kernel : decode prog_5_method_8_code 32 = .ok (.i2s, 1)) ?_
    exact g_iret hR (by decide +kernel : decode prog_5_method_8_code 33 = .ok (.ireturn, 1)) rfl ⟨_, rfl, ⟨rfl, rfl⟩⟩
  · refine g_lookup (x := nI 2) (off := 33) (tgt := 34) (by decide +kernel : decode prog_5_method_8_code 1 = .ok (.lookupswitch 33 #[(0, 27), (1, 30)], 27)) (by decide) (by decide) (by decide) ?_
    refine g_iload_n (by decide +kernel : decode prog_5_method_8_code 34 = .ok (.iload_n 0, 1)) rfl ?_
    exact g_iret hR (by decide +kernel : decode prog_5_method_8_code 35 = .ok (.ireturn, 1)) rfl ⟨_, rfl, ⟨rfl, rfl⟩⟩
  · refine g_lookup (x := nI 3) (off := 33) (tgt := 34) (by decide +kernel : decode prog_5_method_8_code 1 = .ok (.lookupswitch 33 #[(0, 27), (1, 30)], 27)) (by decide) (by decide) (by decide) ?_
    refine g_iload_n (by decide +kernel : decode prog_5_method_8_code 34 = .ok (.iload_n 0, 1)) rfl ?_
    exact g_iret hR (by decide +kernel : decode prog_5_method_8_code 35 = .ok (.ireturn, 1)) rfl ⟨_, rfl, ⟨rfl, rfl⟩⟩
set_option maxRecDepth 20000 in
theorem c_write (σ : Store) {t i k : Nat} (ht : t < 4) (hi : i < 40) (v : Int32) (e : σ 34 t = nI k) (hk : k ≤ 3) : Ct ΛC mt_Sh_write 1 [.ref 33, .int (nI t), .int (nI i), .int v] σ (PU (s_up σ 36 (40 * t + i) (nar (nI k) v))) := by
  refine Ct.of (by decide) (Nat.le_of_ble_eq_true rfl) (fun X hR => ?_)
  show G (ΛC, mt_Sh_write, 1) X σ [some (.ref 33), some (.int (nI t)), some (.int (nI i)), some (.int v)] [] 0
  refine g_aload_n (by decide +kernel : decode prog_5_method_7_code 0 = .ok (.aload_n 0, 1)) rfl ?_
  refine g_getR (by decide +kernel : decode prog_5_method_7_code 1 = .ok (.getfield 18, 3)) fl_Sh_18 rfl rfl ?_
  refine g_iload_n (by decide +kernel : decode prog_5_method_7_code 4 = .ok (.iload_n 1, 1)) rfl ?_
  refine g_bipush (v := nI 40) (by decide +kernel : decode prog_5_method_7_code 5 = .ok (.bipush 40, 2)) (by decide) ?_
  refine g_imulN (by decide +kernel : decode prog_5_method_7_code 7 = .ok (.imul, 1)) ?_
  refine g_iload_n (by decide +kernel : decode prog_5_method_7_code 8 = .ok (.iload_n 2, 1)) rfl ?_
  refine g_iaddN (by decide +kernel : decode prog_5_method_7_code 9 = .ok (.iadd, 1)) ?_
  refine g_iload_n (by decide +kernel : decode prog_5_method_7_code 10 = .ok (.iload_n 3, 1)) rfl ?_
  refine g_aload_n (by decide +kernel : decode prog_5_method_7_code 11 = .ok (.aload_n 0, 1)) rfl ?_
  refine g_getR (by decide +kernel : decode prog_5_method_7_code 12 = .ok (.getfield 9, 3)) fl_Sh_9 rfl rfl ?_
  refine g_iload_n (by decide +kernel : decode prog_5_method_7_code 15 = .ok (.iload_n 1, 1)) rfl ?_
  refine g_iaload (a := t) (by decide +kernel : decode prog_5_method_7_code 16 = .ok (.iaload, 1)) rfl rfl (by omega) (by decide) ?_
  refine g_top (w := nI k) (e) ?_
  refine g_callSI [.int v, .int (nI k)] (by decide +kernel : decode prog_5_method_7_code 17 = .ok (.invokestatic 21, 3)) lk_Sh_21 (c_narrowed _ v hk) rfl rfl (Nat.le_of_ble_eq_true rfl) (Nat.le_of_ble_eq_true rfl) (fun r17 s17 h17 => ?_)
  obtain ⟨rfl, e17⟩ := h17
  have e17 := e17.symm; subst e17
  refine g_iastore (a := 40 * t + i) (by decide +kernel : decode prog_5_method_7_code 20 = .ok (.iastore, 1)) rfl (by rw [Nat.mul_comm t 40]) (by omega) (by decide) ?_
  exact g_vret hR (by decide +kernel : decode prog_5_method_7_code 21 = .ok (.return_, 1)) rfl ⟨rfl, rfl⟩
set_option maxRecDepth 20000 in
theorem c_remove (σ : Store) {t : Nat} (ht : t < 4) : Ct ΛC mt_Sh_remove 0 [.ref 33, .int (nI t)] σ (PU (s_up (s_up σ 34 t (-1)) 35 t (nI 0))) := by
  refine Ct.of (by decide) (Nat.le_of_ble_eq_true rfl) (fun X hR => ?_)
  show G (ΛC, mt_Sh_remove, 0) X σ [some (.ref 33), some (.int (nI t))] [] 0
  refine g_aload_n (by decide +kernel : decode prog_5_method_5_code 0 = .ok (.aload_n 0, 1)) rfl ?_
  refine g_getR (by decide +kernel : decode prog_5_method_5_code 1 = .ok (.getfield 9, 3)) fl_Sh_9 rfl rfl ?_
  refine g_iload_n (by decide +kernel : decode prog_5_method_5_code 4 = .ok (.iload_n 1, 1)) rfl ?_
  refine g_iconst (v := (-1)) (by decide +kernel : decode prog_5_method_5_code 5 = .ok (.iconst (-1), 1)) (by decide) ?_
  refine g_iastore (a := t) (by decide +kernel : decode prog_5_method_5_code 6 = .ok (.iastore, 1)) rfl rfl (by omega) (by decide) ?_
  refine g_aload_n (by decide +kernel : decode prog_5_method_5_code 7 = .ok (.aload_n 0, 1)) rfl ?_
  refine g_getR (by decide +kernel : decode prog_5_method_5_code 8 = .ok (.getfield 15, 3)) fl_Sh_15 rfl rfl ?_
  refine g_iload_n (by decide +kernel : decode prog_5_method_5_code 11 = .ok (.iload_n 1, 1)) rfl ?_
  refine g_iconst (v := nI 0) (by decide +kernel : decode prog_5_method_5_code 12 = .ok (.iconst 0, 1)) (by decide) ?_
  refine g_iastore (a := t) (by decide +kernel : decode prog_5_method_5_code 13 = .ok (.iastore, 1)) rfl rfl (by omega) (by decide) ?_
  exact g_vret hR (by decide +kernel : decode prog_5_method_5_code 14 = .ok (.return_, 1)) rfl ⟨rfl, rfl⟩
set_option maxRecDepth 20000 in
theorem c_lay_lp {X : CX} {σ0 : Store} {t n : Nat} {s : Int32} (ht : t < 4) (hn : n ≤ 40) : ∀ (b9 k : Nat) (σ : Store), σ 34 = upd (σ0 34) t s → σ 35 = upd (σ0 35) t (nI n) → (∀ i, i < k → σ 36 (40 * t + i) = nI 0) → (∀ j, (j < 40 * t ∨ 40 * t + 40 ≤ j) → σ 36 j = σ0 36 j) → (∀ c, c ≠ 34 → c ≠ 35 → c ≠ 36 → σ c = σ0 c) → k ≤ n → n - k < b9 → Rt (ΛC, mt_Sh_lay, 0) (PV (fun σ' => σ' 34 = upd (σ0 34) t s ∧ σ' 35 = upd (σ0 35) t (nI n) ∧ (∀ i, i < n → σ' 36 (40 * t + i) = nI 0) ∧ (∀ j, (j < 40 * t ∨ 40 * t + 40 ≤ j) → σ' 36 j = σ0 36 j) ∧ ∀ c, c ≠ 34 → c ≠ 35 → c ≠ 36 → σ' c = σ0 c)) X → G (ΛC, mt_Sh_lay, 0) X σ [some (.ref 33), some (.int (nI t)), some (.int s), some (.int (nI n)), some (.int (nI k))] [] 17 := by
  intro b9
  induction b9 with
  | zero => intro k σ a1 a2 a3 a4 a5 hk hb hR; omega
  | succ b9 ih =>
  intro k σ a1 a2 a3 a4 a5 hk hb hR
  refine g_iload (by decide +kernel : decode prog_5_method_4_code 17 = .ok (.iload 4, 2)) rfl ?_
  refine g_iload_n (by decide +kernel : decode prog_5_method_4_code 19 = .ok (.iload_n 3, 1)) rfl ?_
  refine g_icmp_geN (tgt := 42) (by decide +kernel : decode prog_5_method_4_code 20 = .ok (.if_icmp .ge 22, 3)) (by decide) (by omega) (by omega) (fun h20 => ?_) (fun h20 => ?_)
  · obtain rfl : k = n := by omega
    exact g_vret hR (by decide +kernel : decode prog_5_method_4_code 42 = .ok (.return_, 1)) rfl ⟨rfl, a1, a2, a3, a4, a5⟩
  · refine g_aload_n (by decide +kernel : decode prog_5_method_4_code 23 = .ok (.aload_n 0, 1)) rfl ?_
    refine g_getR (by decide +kernel : decode prog_5_method_4_code 24 = .ok (.getfield 18, 3)) fl_Sh_18 rfl rfl ?_
    refine g_iload_n (by decide +kernel : decode prog_5_method_4_code 27 = .ok (.iload_n 1, 1)) rfl ?_
    refine g_bipush (v := nI 40) (by decide +kernel : decode prog_5_method_4_code 28 = .ok (.bipush 40, 2)) (by decide) ?_
    refine g_imulN (by decide +kernel : decode prog_5_method_4_code 30 = .ok (.imul, 1)) ?_
    refine g_iload (by decide +kernel : decode prog_5_method_4_code 31 = .ok (.iload 4, 2)) rfl ?_
    refine g_iaddN (by decide +kernel : decode prog_5_method_4_code 33 = .ok (.iadd, 1)) ?_
    refine g_iconst (v := nI 0) (by decide +kernel : decode prog_5_method_4_code 34 = .ok (.iconst 0, 1)) (by decide) ?_
    refine g_iastore (a := 40 * t + k) (by decide +kernel : decode prog_5_method_4_code 35 = .ok (.iastore, 1)) rfl (by rw [Nat.mul_comm t 40]) (by omega) (by decide) ?_
    refine g_iincN (n := 1) (L' := [some (.ref 33), some (.int (nI t)), some (.int s), some (.int (nI n)), some (.int (nI (k + 1)))]) (by decide +kernel : decode prog_5_method_4_code 36 = .ok (.iinc 4 1, 3)) rfl (by decide) (Nat.le_of_ble_eq_true rfl) rfl ?_
    refine g_goto (tgt := 17) (by decide +kernel : decode prog_5_method_4_code 39 = .ok (.goto (-22), 3)) (by decide) ?_
    exact ih (k + 1) _ (by rw [s_up_n _ _ _ (by decide)]; exact a1) (by rw [s_up_n _ _ _ (by decide)]; exact a2) (fun i hi => by rw [s_up_k]; by_cases e : i = k; (subst e; exact upd_s); (rw [upd_n (by omega)]; exact a3 i (by omega))) (fun j hj => by rw [s_up_k, upd_n (by omega)]; exact a4 j hj) (fun c c1 c2 c3 => by rw [s_up_n _ _ _ c3]; exact a5 c c1 c2 c3) (by omega) (by omega) hR
set_option maxRecDepth 20000 in
theorem c_lay (σ : Store) {t n : Nat} (s : Int32) (ht : t < 4) (hn : n ≤ 40) : Ct ΛC mt_Sh_lay 0 [.ref 33, .int (nI t), .int s, .int (nI n)] σ (PV (fun σ' => σ' 34 = upd (σ 34) t s ∧ σ' 35 = upd (σ 35) t (nI n) ∧ (∀ i, i < n → σ' 36 (40 * t + i) = nI 0) ∧ (∀ j, (j < 40 * t ∨ 40 * t + 40 ≤ j) → σ' 36 j = σ 36 j) ∧ ∀ c, c ≠ 34 → c ≠ 35 → c ≠ 36 → σ' c = σ c)) := by
  refine Ct.of (by decide) (Nat.le_of_ble_eq_true rfl) (fun X hR => ?_)
  show G (ΛC, mt_Sh_lay, 0) X σ [some (.ref 33), some (.int (nI t)), some (.int s), some (.int (nI n)), none] [] 0
  refine g_aload_n (by decide +kernel : decode prog_5_method_4_code 0 = .ok (.aload_n 0, 1)) rfl ?_
  refine g_getR (by decide +kernel : decode prog_5_method_4_code 1 = .ok (.getfield 9, 3)) fl_Sh_9 rfl rfl ?_
  refine g_iload_n (by decide +kernel : decode prog_5_method_4_code 4 = .ok (.iload_n 1, 1)) rfl ?_
  refine g_iload_n (by decide +kernel : decode prog_5_method_4_code 5 = .ok (.iload_n 2, 1)) rfl ?_
  refine g_iastore (a := t) (by decide +kernel : decode prog_5_method_4_code 6 = .ok (.iastore, 1)) rfl rfl (by omega) (by decide) ?_
  refine g_aload_n (by decide +kernel : decode prog_5_method_4_code 7 = .ok (.aload_n 0, 1)) rfl ?_
  refine g_getR (by decide +kernel : decode prog_5_method_4_code 8 = .ok (.getfield 15, 3)) fl_Sh_15 rfl rfl ?_
  refine g_iload_n (by decide +kernel : decode prog_5_method_4_code 11 = .ok (.iload_n 1, 1)) rfl ?_
  refine g_iload_n (by decide +kernel : decode prog_5_method_4_code 12 = .ok (.iload_n 3, 1)) rfl ?_
  refine g_iastore (a := t) (by decide +kernel : decode prog_5_method_4_code 13 = .ok (.iastore, 1)) rfl rfl (by omega) (by decide) ?_
  refine g_iconst (v := nI 0) (by decide +kernel : decode prog_5_method_4_code 14 = .ok (.iconst 0, 1)) (by decide) ?_
  refine g_istore (L' := [some (.ref 33), some (.int (nI t)), some (.int s), some (.int (nI n)), some (.int (nI 0))]) (by decide +kernel : decode prog_5_method_4_code 15 = .ok (.istore 4, 2)) (Nat.le_of_ble_eq_true rfl) rfl ?_
  exact c_lay_lp (σ0 := σ) ht hn (n + 1) 0 _ (by rw [s_up_n _ _ _ (by decide), s_up_k]) (by rw [s_up_k, s_up_n _ _ _ (by decide)]) (fun i hi => by omega) (fun j hj => rfl) (fun c c1 c2 c3 => by rw [s_up_n _ _ _ c2, s_up_n _ _ _ c1]) (by omega) (by omega) hR
set_option maxRecDepth 20000 in
theorem c_wf_lp {X : CX} {τ : Store} {f : Row} {o v t n : Nat} {w : Bool} (ho : o < nn f) (hv : v ≤ 9) (ht : t < 4) (e9 : τ 9 t = nI n) (hn : n ≤ 40) : ∀ (b9 k : Nat) (σ : Store), RX σ τ f → RP (tV σ) (yN 255 (upd f (19 + 6 * o + 2) (nI v)) k) → k ≤ n → n - k < b9 → tld (upd f (19 + 6 * o + 2) (nI v)) o (τ 10) (40 * t) (n - k) k = w → Rt (ΛC, mt_Tr_wouldFit, 4) (PI (fun r σ' => RX σ' τ f ∧ ((r = nI 1 ∧ w = true) ∨ (r = nI 0 ∧ ¬ w = true)))) X → G (ΛC, mt_Tr_wouldFit, 4) X σ [some (.ref 28), some (.int (nI o)), some (.int (nI v)), some (.ref 33), some (.int (nI t)), some (.int (nI k)), none] [] 24 := by
  intro b9
  induction b9 with
  | zero => intro k σ h hT hk hb hw hR; omega
  | succ b9 ih =>
  intro k σ h hT hk hb hw hR
  have hn8 := h.n8
  have hN := (yN_inv (m := 255) (h.i.up (o := o) (w := 2) (v := nI v) (by decide) (Rng.of hv)) (k + 1)).2
  rw [nn_up (show 19 + 6 * o + 2 ≠ 0 by omega)] at hN
  have hN2 : nn (yF 255 (yN 255 (upd f (19 + 6 * o + 2) (nI v)) k)) = nn f := hN
  refine g_iload (by decide +kernel : decode prog_8_method_11_code 24 = .ok (.iload 5, 2)) rfl ?_
  refine g_aload_n (by decide +kernel : decode prog_8_method_11_code 26 = .ok (.aload_n 3, 1)) rfl ?_
  refine g_getR (by decide +kernel : decode prog_8_method_11_code 27 = .ok (.getfield 75, 3)) fl_Tr_75 rfl rfl ?_
  refine g_iload (by decide +kernel : decode prog_8_method_11_code 30 = .ok (.iload 4, 2)) rfl ?_
  refine g_iaload (a := t) (by decide +kernel : decode prog_8_method_11_code 32 = .ok (.iaload, 1)) rfl rfl (by omega) (by decide) ?_
  refine g_top (w := nI n) ((h.s2 ht).trans e9) ?_
  refine g_icmp_geN (tgt := 84) (by decide +kernel : decode prog_8_method_11_code 33 = .ok (.if_icmp .ge 51, 3)) (by decide) (by omega) (by omega) (fun h33 => ?_) (fun h33 => ?_)
  · refine g_iconst (v := nI 1) (by decide +kernel : decode prog_8_method_11_code 84 = .ok (.iconst 1, 1)) (by decide) ?_
    obtain rfl : k = n := by omega
    rw [Nat.sub_self] at hw
    exact g_zret hR (by decide +kernel : decode prog_8_method_11_code 85 = .ok (.ireturn, 1)) rfl (by decide) ⟨_, rfl, h, Or.inl ⟨rfl, hw.symm⟩⟩
  · refine g_aload_n (by decide +kernel : decode prog_8_method_11_code 36 = .ok (.aload_n 0, 1)) rfl ?_
    refine g_getR (by decide +kernel : decode prog_8_method_11_code 37 = .ok (.getfield 18, 3)) fl_Tr_18 rfl rfl ?_
    refine g_sipush (v := nI 255) (by decide +kernel : decode prog_8_method_11_code 40 = .ok (.sipush 255, 3)) (by decide) ?_
    refine g_callVV [.int (nI 255)] (by decide +kernel : decode prog_8_method_11_code 43 = .ok (.invokevirtual 33, 3)) lk_Tr_33 (t_passYear h hT (m := 255) (by decide)) rfl rfl rfl rfl (Nat.le_of_ble_eq_true rfl) (Nat.le_of_ble_eq_true rfl) (fun s43 h43 => ?_)
    obtain ⟨g43, u43, r43⟩ := h43
    refine g_aload_n (by decide +kernel : decode prog_8_method_11_code 46 = .ok (.aload_n 3, 1)) rfl ?_
    refine g_iload (by decide +kernel : decode prog_8_method_11_code 47 = .ok (.iload 4, 2)) rfl ?_
    refine g_iload (by decide +kernel : decode prog_8_method_11_code 49 = .ok (.iload 5, 2)) rfl ?_
    refine g_callVI [.int (nI t), .int (nI k)] (by decide +kernel : decode prog_8_method_11_code 51 = .ok (.invokevirtual 80, 3)) lk_Tr_80 (c_read _ (t := t) (i := k) ht (by omega)) rfl rfl rfl rfl (Nat.le_of_ble_eq_true rfl) (Nat.le_of_ble_eq_true rfl) (fun r51 s51 h51 => ?_)
    obtain ⟨rfl, e51⟩ := h51
    have e51 := e51.symm; subst e51
    refine g_top (w := τ 10 (40 * t + k)) (g43.s3 ht e9 hn (by omega)) ?_
    refine g_istore (L' := [some (.ref 28), some (.int (nI o)), some (.int (nI v)), some (.ref 33), some (.int (nI t)), some (.int (nI k)), some (.int (τ 10 (40 * t + k)))]) (by decide +kernel : decode prog_8_method_11_code 54 = .ok (.istore 6, 2)) (Nat.le_of_ble_eq_true rfl) rfl ?_
    refine g_iload (by decide +kernel : decode prog_8_method_11_code 56 = .ok (.iload 6, 2)) rfl ?_
    refine g_iconst (v := (-1)) (by decide +kernel : decode prog_8_method_11_code 58 = .ok (.iconst (-1), 1)) (by decide) ?_
    refine g_icmp_eq (tgt := 78) (by decide +kernel : decode prog_8_method_11_code 59 = .ok (.if_icmp .eq 19, 3)) (by decide) (fun h59 => ?_) (fun h59 => ?_)
    · refine g_iincN (n := 1) (L' := [some (.ref 28), some (.int (nI o)), some (.int (nI v)), some (.ref 33), some (.int (nI t)), some (.int (nI (k + 1))), some (.int (τ 10 (40 * t + k)))]) (by decide +kernel : decode prog_8_method_11_code 78 = .ok (.iinc 5 1, 3)) rfl (by decide) (Nat.le_of_ble_eq_true rfl) rfl ?_
      refine g_goto (tgt := 24) (by decide +kernel : decode prog_8_method_11_code 81 = .ok (.goto (-57), 3)) (by decide) ?_
      refine g_sub (L' := [some (.ref 28), some (.int (nI o)), some (.int (nI v)), some (.ref 33), some (.int (nI t)), some (.int (nI (k + 1))), none]) ⟨rfl, rfl, rfl, rfl, rfl, rfl, trivial⟩ ?_
      exact ih (k + 1) _ g43 u43 (by omega) (by omega) ((tld_yes (by omega) (by first | exact Or.inl h59 | exact Or.inr h73)).symm.trans hw) hR
    · refine g_iload (by decide +kernel : decode prog_8_method_11_code 62 = .ok (.iload 6, 2)) rfl ?_
      refine g_aload_n (by decide +kernel : decode prog_8_method_11_code 64 = .ok (.aload_n 0, 1)) rfl ?_
      refine g_getR (by decide +kernel : decode prog_8_method_11_code 65 = .ok (.getfield 18, 3)) fl_Tr_18 rfl rfl ?_
      refine g_getR (by decide +kernel : decode prog_8_method_11_code 68 = .ok (.getfield 41, 3)) fl_Tr_41 rfl rfl ?_
      refine g_iload_n (by decide +kernel : decode prog_8_method_11_code 71 = .ok (.iload_n 1, 1)) rfl ?_
      refine g_iaload (a := o) (by decide +kernel : decode prog_8_method_11_code 72 = .ok (.iaload, 1)) rfl rfl (by omega) (by decide) ?_
      refine g_top (w := (yF 255 (yN 255 (upd f (19 + 6 * o + 2) (nI v)) k)) (19 + 6 * o + 3)) (u43.p3 (by omega)) ?_
      refine g_icmp_eq (tgt := 78) (by decide +kernel : decode prog_8_method_11_code 73 = .ok (.if_icmp .eq 5, 3)) (by decide) (fun h73 => ?_) (fun h73 => ?_)
      · refine g_iincN (n := 1) (L' := [some (.ref 28), some (.int (nI o)), some (.int (nI v)), some (.ref 33), some (.int (nI t)), some (.int (nI (k + 1))), some (.int (τ 10 (40 * t + k)))]) (by decide +kernel : decode prog_8_method_11_code 78 = .ok (.iinc 5 1, 3)) rfl (by decide) (Nat.le_of_ble_eq_true rfl) rfl ?_
        refine g_goto (tgt := 24) (by decide +kernel : decode prog_8_method_11_code 81 = .ok (.goto (-57), 3)) (by decide) ?_
        refine g_sub (L' := [some (.ref 28), some (.int (nI o)), some (.int (nI v)), some (.ref 33), some (.int (nI t)), some (.int (nI (k + 1))), none]) ⟨rfl, rfl, rfl, rfl, rfl, rfl, trivial⟩ ?_
        exact ih (k + 1) _ g43 u43 (by omega) (by omega) ((tld_yes (by omega) (by first | exact Or.inl h59 | exact Or.inr h73)).symm.trans hw) hR
      · refine g_iconst (v := nI 0) (by decide +kernel : decode prog_8_method_11_code 76 = .ok (.iconst 0, 1)) (by decide) ?_
        exact g_zret hR (by decide +kernel : decode prog_8_method_11_code 77 = .ok (.ireturn, 1)) rfl (by decide) ⟨_, rfl, g43, Or.inr ⟨rfl, by rw [← hw, tld_no (by omega) (fun z => by rcases z with z | z; exact h59 z; exact h73 z)]; decide⟩⟩
set_option maxRecDepth 20000 in
theorem c_wouldFit {σ τ : Store} {f : Row} (h : RX σ τ f) {o v t n : Nat} (ho : o < nn f) (hv : v ≤ 9) (ht : t < 4) (e9 : τ 9 t = nI n) (hn : n ≤ 40) : Ct ΛC mt_Tr_wouldFit 4 [.ref 28, .int (nI o), .int (nI v), .ref 33, .int (nI t)] σ (PI (fun r σ' => RX σ' τ f ∧ ((r = nI 1 ∧ tld (upd f (19 + 6 * o + 2) (nI v)) o (τ 10) (40 * t) n 0 = true) ∨ (r = nI 0 ∧ ¬ tld (upd f (19 + 6 * o + 2) (nI v)) o (τ 10) (40 * t) n 0 = true)))) := by
  refine Ct.of (by decide) (Nat.le_of_ble_eq_true rfl) (fun X hR => ?_)
  show G (ΛC, mt_Tr_wouldFit, 4) X σ [some (.ref 28), some (.int (nI o)), some (.int (nI v)), some (.ref 33), some (.int (nI t)), none, none] [] 0
  have hn8 := h.n8
  refine g_aload_n (by decide +kernel : decode prog_8_method_11_code 0 = .ok (.aload_n 0, 1)) rfl ?_
  refine g_getR (by decide +kernel : decode prog_8_method_11_code 1 = .ok (.getfield 18, 3)) fl_Tr_18 rfl rfl ?_
  refine g_aload_n (by decide +kernel : decode prog_8_method_11_code 4 = .ok (.aload_n 0, 1)) rfl ?_
  refine g_getR (by decide +kernel : decode prog_8_method_11_code 5 = .ok (.getfield 12, 3)) fl_Tr_12 rfl rfl ?_
  refine g_callVV [.ref 1] (by decide +kernel : decode prog_8_method_11_code 8 = .ok (.invokevirtual 21, 3)) lk_Tr_21 (c_becTN h) rfl rfl rfl rfl (Nat.le_of_ble_eq_true rfl) (Nat.le_of_ble_eq_true rfl) (fun s8 h8 => ?_)
  obtain ⟨g8, u8⟩ := h8
  refine g_aload_n (by decide +kernel : decode prog_8_method_11_code 11 = .ok (.aload_n 0, 1)) rfl ?_
  refine g_getR (by decide +kernel : decode prog_8_method_11_code 12 = .ok (.getfield 18, 3)) fl_Tr_18 rfl rfl ?_
  refine g_getR (by decide +kernel : decode prog_8_method_11_code 15 = .ok (.getfield 52, 3)) fl_Tr_52 rfl rfl ?_
  refine g_iload_n (by decide +kernel : decode prog_8_method_11_code 18 = .ok (.iload_n 1, 1)) rfl ?_
  refine g_iload_n (by decide +kernel : decode prog_8_method_11_code 19 = .ok (.iload_n 2, 1)) rfl ?_
  refine g_iastore (a := o) (by decide +kernel : decode prog_8_method_11_code 20 = .ok (.iastore, 1)) rfl rfl (by omega) (by decide) ?_
  have p21 := g8.t2 u8 (o := o) (v := (nI v)) (Rng.of (show v ≤ mx 2 from hv))
  refine g_iconst (v := nI 0) (by decide +kernel : decode prog_8_method_11_code 21 = .ok (.iconst 0, 1)) (by decide) ?_
  refine g_istore (L' := [some (.ref 28), some (.int (nI o)), some (.int (nI v)), some (.ref 33), some (.int (nI t)), some (.int (nI 0)), none]) (by decide +kernel : decode prog_8_method_11_code 22 = .ok (.istore 5, 2)) (Nat.le_of_ble_eq_true rfl) rfl ?_
  exact c_wf_lp ho hv ht e9 hn (n + 1) 0 _ p21.1 p21.2 (by omega) (by omega) rfl hR
set_option maxRecDepth 20000 in
theorem c_rhas (σ : Store) (x y : Int32) {r : Nat} (e : σ 31 1 = nI r) (hr : r ≤ 10) : Ct ΛC mt_Rw_has 0 [.ref 31, .int x, .int y] σ (PB σ ((∃ j, j < r ∧ x = nI j) ∧ ∃ j, 0 ≤ j ∧ j ≤ 2 ∧ y = nI j)) := by
  refine Ct.of (by decide) (Nat.le_of_ble_eq_true rfl) (fun X hR => ?_)
  show G (ΛC, mt_Rw_has, 0) X σ [some (.ref 31), some (.int x), some (.int y)] [] 0
  refine g_iload_n (by decide +kernel : decode prog_4_method_2_code 0 = .ok (.iload_n 1, 1)) rfl ?_
  refine g_if_lt (tgt := 25) (by decide +kernel : decode prog_4_method_2_code 1 = .ok (.ifCond .lt 24, 3)) (by decide) (fun h1 => ?_) (fun h1 => ?_)
  · refine g_iconst (v := nI 0) (by decide +kernel : decode prog_4_method_2_code 25 = .ok (.iconst 0, 1)) (by decide) ?_
    exact g_zret hR (by decide +kernel : decode prog_4_method_2_code 26 = .ok (.ireturn, 1)) rfl (by decide) ⟨_, rfl, ⟨rfl, Or.inr ⟨rfl, by first | exact fun q => absurd ((i32_lt x (by omega)).mpr q.1).1 (Int32.not_le.mpr h1) | exact fun q => absurd ((i32_lt x (by omega)).mpr q.1).2 (Int32.not_lt.mpr h9) | exact fun ⟨_, j, _, a, b⟩ => absurd ((i32_lt y (show 3 < 2 ^ 31 by decide)).mpr ⟨j, by omega, b⟩).1 (Int32.not_le.mpr h13) | exact fun ⟨_, j, _, a, b⟩ => absurd ((i32_lt y (show 3 < 2 ^ 31 by decide)).mpr ⟨j, by omega, b⟩).2 (Int32.not_lt.mpr h18)⟩⟩⟩
  · refine g_iload_n (by decide +kernel : decode prog_4_method_2_code 4 = .ok (.iload_n 1, 1)) rfl ?_
    refine g_aload_n (by decide +kernel : decode prog_4_method_2_code 5 = .ok (.aload_n 0, 1)) rfl ?_
    refine g_getI (by decide +kernel : decode prog_4_method_2_code 6 = .ok (.getfield 15, 3)) fl_Rw_15.get rfl rfl ?_
    refine g_top (w := nI r) (e) ?_
    refine g_icmp_ge (tgt := 25) (by decide +kernel : decode prog_4_method_2_code 9 = .ok (.if_icmp .ge 16, 3)) (by decide) (fun h9 => ?_) (fun h9 => ?_)
    · refine g_iconst (v := nI 0) (by decide +kernel : decode prog_4_method_2_code 25 = .ok (.iconst 0, 1)) (by decide) ?_
      exact g_zret hR (by decide +kernel : decode prog_4_method_2_code 26 = .ok (.ireturn, 1)) rfl (by decide) ⟨_, rfl, ⟨rfl, Or.inr ⟨rfl, by first | exact fun q => absurd ((i32_lt x (by omega)).mpr q.1).1 (Int32.not_le.mpr h1) | exact fun q => absurd ((i32_lt x (by omega)).mpr q.1).2 (Int32.not_lt.mpr h9) | exact fun ⟨_, j, _, a, b⟩ => absurd ((i32_lt y (show 3 < 2 ^ 31 by decide)).mpr ⟨j, by omega, b⟩).1 (Int32.not_le.mpr h13) | exact fun ⟨_, j, _, a, b⟩ => absurd ((i32_lt y (show 3 < 2 ^ 31 by decide)).mpr ⟨j, by omega, b⟩).2 (Int32.not_lt.mpr h18)⟩⟩⟩
    · refine g_iload_n (by decide +kernel : decode prog_4_method_2_code 12 = .ok (.iload_n 2, 1)) rfl ?_
      refine g_if_lt (tgt := 25) (by decide +kernel : decode prog_4_method_2_code 13 = .ok (.ifCond .lt 12, 3)) (by decide) (fun h13 => ?_) (fun h13 => ?_)
      · refine g_iconst (v := nI 0) (by decide +kernel : decode prog_4_method_2_code 25 = .ok (.iconst 0, 1)) (by decide) ?_
        exact g_zret hR (by decide +kernel : decode prog_4_method_2_code 26 = .ok (.ireturn, 1)) rfl (by decide) ⟨_, rfl, ⟨rfl, Or.inr ⟨rfl, by first | exact fun q => absurd ((i32_lt x (by omega)).mpr q.1).1 (Int32.not_le.mpr h1) | exact fun q => absurd ((i32_lt x (by omega)).mpr q.1).2 (Int32.not_lt.mpr h9) | exact fun ⟨_, j, _, a, b⟩ => absurd ((i32_lt y (show 3 < 2 ^ 31 by decide)).mpr ⟨j, by omega, b⟩).1 (Int32.not_le.mpr h13) | exact fun ⟨_, j, _, a, b⟩ => absurd ((i32_lt y (show 3 < 2 ^ 31 by decide)).mpr ⟨j, by omega, b⟩).2 (Int32.not_lt.mpr h18)⟩⟩⟩
      · refine g_iload_n (by decide +kernel : decode prog_4_method_2_code 16 = .ok (.iload_n 2, 1)) rfl ?_
        refine g_iconst (v := nI 3) (by decide +kernel : decode prog_4_method_2_code 17 = .ok (.iconst 3, 1)) (by decide) ?_
        refine g_icmp_ge (tgt := 25) (by decide +kernel : decode prog_4_method_2_code 18 = .ok (.if_icmp .ge 7, 3)) (by decide) (fun h18 => ?_) (fun h18 => ?_)
        · refine g_iconst (v := nI 0) (by decide +kernel : decode prog_4_method_2_code 25 = .ok (.iconst 0, 1)) (by decide) ?_
          exact g_zret hR (by decide +kernel : decode prog_4_method_2_code 26 = .ok (.ireturn, 1)) rfl (by decide) ⟨_, rfl, ⟨rfl, Or.inr ⟨rfl, by first | exact fun q => absurd ((i32_lt x (by omega)).mpr q.1).1 (Int32.not_le.mpr h1) | exact fun q => absurd ((i32_lt x (by omega)).mpr q.1).2 (Int32.not_lt.mpr h9) | exact fun ⟨_, j, _, a, b⟩ => absurd ((i32_lt y (show 3 < 2 ^ 31 by decide)).mpr ⟨j, by omega, b⟩).1 (Int32.not_le.mpr h13) | exact fun ⟨_, j, _, a, b⟩ => absurd ((i32_lt y (show 3 < 2 ^ 31 by decide)).mpr ⟨j, by omega, b⟩).2 (Int32.not_lt.mpr h18)⟩⟩⟩
        · refine g_iconst (v := nI 1) (by decide +kernel : decode prog_4_method_2_code 21 = .ok (.iconst 1, 1)) (by decide) ?_
          refine g_goto (tgt := 26) (by decide +kernel : decode prog_4_method_2_code 22 = .ok (.goto 4, 3)) (by decide) ?_
          exact g_zret hR (by decide +kernel : decode prog_4_method_2_code 26 = .ok (.ireturn, 1)) rfl (by decide) ⟨_, rfl, ⟨rfl, Or.inl ⟨rfl, ⟨(i32_lt x (by omega)).mp ⟨Int32.not_lt.mp h1, Int32.not_le.mp h9⟩, by obtain ⟨j, a, b⟩ := (i32_lt y (show 3 < 2 ^ 31 by decide)).mp ⟨Int32.not_lt.mp h13, Int32.not_le.mp h18⟩; exact ⟨j, Nat.zero_le _, by omega, b⟩⟩⟩⟩⟩
set_option maxRecDepth 20000 in
theorem c_due0 {σ : Store} {g : Row} (hT : RP (tV σ) g) {o : Nat} (ho : o < nn g) : Ct ΛC mt_Rw_due 1 [.ref 10, .int (nI o), .int (nI 0)] σ (PF (g (19 + 6 * o + 3)) σ) := by
  refine Ct.of (by decide) (Nat.le_of_ble_eq_true rfl) (fun X hR => ?_)
  show G (ΛC, mt_Rw_due, 1) X σ [some (.ref 10), some (.int (nI o)), some (.int (nI 0))] [] 0
  have hn8 := hT.n8
  refine g_iload_n (by decide +kernel : decode prog_4_method_5_code 0 = .ok (.iload_n 2, 1)) rfl ?_
  refine g_lookup (x := nI 0) (off := 27) (tgt := 28) (by decide +kernel : decode prog_4_method_5_code 1 = .ok (.lookupswitch 48 #[(0, 27), (1, 34)], 27)) (by decide) (by decide) (by decide) ?_
  refine g_aload_n (by decide +kernel : decode prog_4_method_5_code 28 = .ok (.aload_n 0, 1)) rfl ?_
  refine g_getR (by decide +kernel : decode prog_4_method_5_code 29 = .ok (.getfield 23, 3)) fl_Rw_23 rfl rfl ?_
  refine g_iload_n (by decide +kernel : decode prog_4_method_5_code 32 = .ok (.iload_n 1, 1)) rfl ?_
  refine g_iaload (a := o) (by decide +kernel : decode prog_4_method_5_code 33 = .ok (.iaload, 1)) rfl rfl (by omega) (by decide) ?_
  refine g_top (w := g (19 + 6 * o + 3)) (hT.p3 (by omega)) ?_
  exact g_iret hR (by decide +kernel : decode prog_4_method_5_code 34 = .ok (.ireturn, 1)) rfl ⟨_, rfl, ⟨rfl, rfl⟩⟩
set_option maxRecDepth 20000 in
theorem c_due1 {σ : Store} {g : Row} (hT : RP (tV σ) g) {o : Nat} (ho : o < nn g) : Ct ΛC mt_Rw_due 1 [.ref 10, .int (nI o), .int (nI 1)] σ (PF (g (19 + 6 * o + 4)) σ) := by
  refine Ct.of (by decide) (Nat.le_of_ble_eq_true rfl) (fun X hR => ?_)
  show G (ΛC, mt_Rw_due, 1) X σ [some (.ref 10), some (.int (nI o)), some (.int (nI 1))] [] 0
  have hn8 := hT.n8
  refine g_iload_n (by decide +kernel : decode prog_4_method_5_code 0 = .ok (.iload_n 2, 1)) rfl ?_
  refine g_lookup (x := nI 1) (off := 34) (tgt := 35) (by decide +kernel : decode prog_4_method_5_code 1 = .ok (.lookupswitch 48 #[(0, 27), (1, 34)], 27)) (by decide) (by decide) (by decide) ?_
  refine g_aload_n (by decide +kernel : decode prog_4_method_5_code 35 = .ok (.aload_n 0, 1)) rfl ?_
  refine g_iload_n (by decide +kernel : decode prog_4_method_5_code 36 = .ok (.iload_n 1, 1)) rfl ?_
  refine g_callVI [.int (nI o)] (by decide +kernel : decode prog_4_method_5_code 37 = .ok (.invokevirtual 28, 3)) lk_Rw_28 (t_isHidden hT (o := o) ho) rfl rfl rfl rfl (Nat.le_of_ble_eq_true rfl) (Nat.le_of_ble_eq_true rfl) (fun r37 s37 h37 => ?_)
  rcases h37 with ⟨e37, ⟨rfl, q37⟩ | ⟨rfl, q37⟩⟩
  · have e37 := e37.symm; subst e37
    refine g_if_eqN (tgt := 47) (by decide +kernel : decode prog_4_method_5_code 40 = .ok (.ifCond .eq 7, 3)) (by decide) (by decide) (fun h => False.elim (by revert h; decide)) (fun _ => ?_)
    refine g_iconst (v := nI 1) (by decide +kernel : decode prog_4_method_5_code 43 = .ok (.iconst 1, 1)) (by decide) ?_
    refine g_goto (tgt := 48) (by decide +kernel : decode prog_4_method_5_code 44 = .ok (.goto 4, 3)) (by decide) ?_
    exact g_iret hR (by decide +kernel : decode prog_4_method_5_code 48 = .ok (.ireturn, 1)) rfl ⟨_, rfl, ⟨q37.symm, rfl⟩⟩
  · have e37 := e37.symm; subst e37
    refine g_if_eqN (tgt := 47) (by decide +kernel : decode prog_4_method_5_code 40 = .ok (.ifCond .eq 7, 3)) (by decide) (by decide) (fun _ => ?_) (fun h => False.elim (by revert h; decide))
    refine g_iconst (v := nI 0) (by decide +kernel : decode prog_4_method_5_code 47 = .ok (.iconst 0, 1)) (by decide) ?_
    exact g_iret hR (by decide +kernel : decode prog_4_method_5_code 48 = .ok (.ireturn, 1)) rfl ⟨_, rfl, ⟨(nh0 hT.i ho q37).symm, rfl⟩⟩
set_option maxRecDepth 20000 in
theorem c_due2 {σ : Store} {g : Row} (hT : RP (tV σ) g) {o : Nat} (ho : o < nn g) : Ct ΛC mt_Rw_due 1 [.ref 10, .int (nI o), .int (nI 2)] σ (PF (g (19 + 6 * o + 5)) σ) := by
  refine Ct.of (by decide) (Nat.le_of_ble_eq_true rfl) (fun X hR => ?_)
  show G (ΛC, mt_Rw_due, 1) X σ [some (.ref 10), some (.int (nI o)), some (.int (nI 2))] [] 0
  have hn8 := hT.n8
  refine g_iload_n (by decide +kernel : decode prog_4_method_5_code 0 = .ok (.iload_n 2, 1)) rfl ?_
  refine g_lookup (x := nI 2) (off := 48) (tgt := 49) (by decide +kernel : decode prog_4_method_5_code 1 = .ok (.lookupswitch 48 #[(0, 27), (1, 34)], 27)) (by decide) (by decide) (by decide) ?_
  refine g_aload_n (by decide +kernel : decode prog_4_method_5_code 49 = .ok (.aload_n 0, 1)) rfl ?_
  refine g_getR (by decide +kernel : decode prog_4_method_5_code 50 = .ok (.getfield 32, 3)) fl_Rw_32 rfl rfl ?_
  refine g_iload_n (by decide +kernel : decode prog_4_method_5_code 53 = .ok (.iload_n 1, 1)) rfl ?_
  refine g_iaload (a := o) (by decide +kernel : decode prog_4_method_5_code 54 = .ok (.iaload, 1)) rfl rfl (by omega) (by decide) ?_
  refine g_top (w := g (19 + 6 * o + 5)) (hT.p5 (by omega)) ?_
  exact g_iret hR (by decide +kernel : decode prog_4_method_5_code 55 = .ok (.ireturn, 1)) rfl ⟨_, rfl, ⟨rfl, rfl⟩⟩
set_option maxRecDepth 20000 in
theorem c_rwrite {σ : Store} {g : Row} (hT : RP (tV σ) g) {k o : Nat} (ho : o < nn g) (hk : k < 10) : Ct ΛC mt_Rw_write 2 [.ref 31, .int (nI k), .ref 10, .int (nI o)] σ (PU (s_up (s_up (s_up σ 32 (3 * k + 0) (g (19 + 6 * o + 3))) 32 (3 * k + 1) (g (19 + 6 * o + 4))) 32 (3 * k + 2) (g (19 + 6 * o + 5)))) := by
  refine Ct.of (by decide) (Nat.le_of_ble_eq_true rfl) (fun X hR => ?_)
  show G (ΛC, mt_Rw_write, 2) X σ [some (.ref 31), some (.int (nI k)), some (.ref 10), some (.int (nI o)), none] [] 0
  have hn8 := hT.n8
  refine g_iconst (v := nI 0) (by decide +kernel : decode prog_4_method_3_code 0 = .ok (.iconst 0, 1)) (by decide) ?_
  refine g_istore (L' := [some (.ref 31), some (.int (nI k)), some (.ref 10), some (.int (nI o)), some (.int (nI 0))]) (by decide +kernel : decode prog_4_method_3_code 1 = .ok (.istore 4, 2)) (Nat.le_of_ble_eq_true rfl) rfl ?_
  refine g_iload (by decide +kernel : decode prog_4_method_3_code 3 = .ok (.iload 4, 2)) rfl ?_
  refine g_iconst (v := nI 3) (by decide +kernel : decode prog_4_method_3_code 5 = .ok (.iconst 3, 1)) (by decide) ?_
  refine g_icmp_geN (tgt := 33) (by decide +kernel : decode prog_4_method_3_code 6 = .ok (.if_icmp .ge 27, 3)) (by decide) (by decide) (by decide) (fun h => False.elim (by revert h; decide)) (fun _ => ?_)
  refine g_aload_n (by decide +kernel : decode prog_4_method_3_code 9 = .ok (.aload_n 0, 1)) rfl ?_
  refine g_getR (by decide +kernel : decode prog_4_method_3_code 10 = .ok (.getfield 9, 3)) fl_Rw_9 rfl rfl ?_
  refine g_iload_n (by decide +kernel : decode prog_4_method_3_code 13 = .ok (.iload_n 1, 1)) rfl ?_
  refine g_iconst (v := nI 3) (by decide +kernel : decode prog_4_method_3_code 14 = .ok (.iconst 3, 1)) (by decide) ?_
  refine g_imulN (by decide +kernel : decode prog_4_method_3_code 15 = .ok (.imul, 1)) ?_
  refine g_iload (by decide +kernel : decode prog_4_method_3_code 16 = .ok (.iload 4, 2)) rfl ?_
  refine g_iaddN (by decide +kernel : decode prog_4_method_3_code 18 = .ok (.iadd, 1)) ?_
  refine g_aload_n (by decide +kernel : decode prog_4_method_3_code 19 = .ok (.aload_n 2, 1)) rfl ?_
  refine g_iload_n (by decide +kernel : decode prog_4_method_3_code 20 = .ok (.iload_n 3, 1)) rfl ?_
  refine g_iload (by decide +kernel : decode prog_4_method_3_code 21 = .ok (.iload 4, 2)) rfl ?_
  refine g_callSI [.ref 10, .int (nI o), .int (nI 0)] (by decide +kernel : decode prog_4_method_3_code 23 = .ok (.invokestatic 19, 3)) lk_Rw_19 (c_due0 (σ := σ) hT ho) rfl rfl (Nat.le_of_ble_eq_true rfl) (Nat.le_of_ble_eq_true rfl) (fun r23 s23 h23 => ?_)
  obtain ⟨rfl, e23⟩ := h23
  have e23 := e23.symm; subst e23
  refine g_iastore (a := 3 * k + 0) (by decide +kernel : decode prog_4_method_3_code 26 = .ok (.iastore, 1)) rfl (by rw [Nat.mul_comm k 3]) (by omega) (by decide) ?_
  refine g_iincN (n := 1) (L' := [some (.ref 31), some (.int (nI k)), some (.ref 10), some (.int (nI o)), some (.int (nI (0 + 1)))]) (by decide +kernel : decode prog_4_method_3_code 27 = .ok (.iinc 4 1, 3)) rfl (by decide) (Nat.le_of_ble_eq_true rfl) rfl ?_
  refine g_goto (tgt := 3) (by decide +kernel : decode prog_4_method_3_code 30 = .ok (.goto (-27), 3)) (by decide) ?_
  refine g_sub (L' := [some (.ref 31), some (.int (nI k)), some (.ref 10), some (.int (nI o)), some (.int (nI 1))]) ⟨rfl, rfl, rfl, rfl, rfl, trivial⟩ ?_
  refine g_iload (by decide +kernel : decode prog_4_method_3_code 3 = .ok (.iload 4, 2)) rfl ?_
  refine g_iconst (v := nI 3) (by decide +kernel : decode prog_4_method_3_code 5 = .ok (.iconst 3, 1)) (by decide) ?_
  refine g_icmp_geN (tgt := 33) (by decide +kernel : decode prog_4_method_3_code 6 = .ok (.if_icmp .ge 27, 3)) (by decide) (by decide) (by decide) (fun h => False.elim (by revert h; decide)) (fun _ => ?_)
  refine g_aload_n (by decide +kernel : decode prog_4_method_3_code 9 = .ok (.aload_n 0, 1)) rfl ?_
  refine g_getR (by decide +kernel : decode prog_4_method_3_code 10 = .ok (.getfield 9, 3)) fl_Rw_9 rfl rfl ?_
  refine g_iload_n (by decide +kernel : decode prog_4_method_3_code 13 = .ok (.iload_n 1, 1)) rfl ?_
  refine g_iconst (v := nI 3) (by decide +kernel : decode prog_4_method_3_code 14 = .ok (.iconst 3, 1)) (by decide) ?_
  refine g_imulN (by decide +kernel : decode prog_4_method_3_code 15 = .ok (.imul, 1)) ?_
  refine g_iload (by decide +kernel : decode prog_4_method_3_code 16 = .ok (.iload 4, 2)) rfl ?_
  refine g_iaddN (by decide +kernel : decode prog_4_method_3_code 18 = .ok (.iadd, 1)) ?_
  refine g_aload_n (by decide +kernel : decode prog_4_method_3_code 19 = .ok (.aload_n 2, 1)) rfl ?_
  refine g_iload_n (by decide +kernel : decode prog_4_method_3_code 20 = .ok (.iload_n 3, 1)) rfl ?_
  refine g_iload (by decide +kernel : decode prog_4_method_3_code 21 = .ok (.iload 4, 2)) rfl ?_
  refine g_callSI [.ref 10, .int (nI o), .int (nI 1)] (by decide +kernel : decode prog_4_method_3_code 23 = .ok (.invokestatic 19, 3)) lk_Rw_19 (c_due1 (σ := s_up σ 32 (3 * k + 0) (g (19 + 6 * o + 3))) hT ho) rfl rfl (Nat.le_of_ble_eq_true rfl) (Nat.le_of_ble_eq_true rfl) (fun r23 s23 h23 => ?_)
  obtain ⟨rfl, e23⟩ := h23
  have e23 := e23.symm; subst e23
  refine g_iastore (a := 3 * k + 1) (by decide +kernel : decode prog_4_method_3_code 26 = .ok (.iastore, 1)) rfl (by rw [Nat.mul_comm k 3]) (by omega) (by decide) ?_
  refine g_iincN (n := 1) (L' := [some (.ref 31), some (.int (nI k)), some (.ref 10), some (.int (nI o)), some (.int (nI (1 + 1)))]) (by decide +kernel : decode prog_4_method_3_code 27 = .ok (.iinc 4 1, 3)) rfl (by decide) (Nat.le_of_ble_eq_true rfl) rfl ?_
  refine g_goto (tgt := 3) (by decide +kernel : decode prog_4_method_3_code 30 = .ok (.goto (-27), 3)) (by decide) ?_
  refine g_sub (L' := [some (.ref 31), some (.int (nI k)), some (.ref 10), some (.int (nI o)), some (.int (nI 2))]) ⟨rfl, rfl, rfl, rfl, rfl, trivial⟩ ?_
  refine g_iload (by decide +kernel : decode prog_4_method_3_code 3 = .ok (.iload 4, 2)) rfl ?_
  refine g_iconst (v := nI 3) (by decide +kernel : decode prog_4_method_3_code 5 = .ok (.iconst 3, 1)) (by decide) ?_
  refine g_icmp_geN (tgt := 33) (by decide +kernel : decode prog_4_method_3_code 6 = .ok (.if_icmp .ge 27, 3)) (by decide) (by decide) (by decide) (fun h => False.elim (by revert h; decide)) (fun _ => ?_)
  refine g_aload_n (by decide +kernel : decode prog_4_method_3_code 9 = .ok (.aload_n 0, 1)) rfl ?_
  refine g_getR (by decide +kernel : decode prog_4_method_3_code 10 = .ok (.getfield 9, 3)) fl_Rw_9 rfl rfl ?_
  refine g_iload_n (by decide +kernel : decode prog_4_method_3_code 13 = .ok (.iload_n 1, 1)) rfl ?_
  refine g_iconst (v := nI 3) (by decide +kernel : decode prog_4_method_3_code 14 = .ok (.iconst 3, 1)) (by decide) ?_
  refine g_imulN (by decide +kernel : decode prog_4_method_3_code 15 = .ok (.imul, 1)) ?_
  refine g_iload (by decide +kernel : decode prog_4_method_3_code 16 = .ok (.iload 4, 2)) rfl ?_
  refine g_iaddN (by decide +kernel : decode prog_4_method_3_code 18 = .ok (.iadd, 1)) ?_
  refine g_aload_n (by decide +kernel : decode prog_4_method_3_code 19 = .ok (.aload_n 2, 1)) rfl ?_
  refine g_iload_n (by decide +kernel : decode prog_4_method_3_code 20 = .ok (.iload_n 3, 1)) rfl ?_
  refine g_iload (by decide +kernel : decode prog_4_method_3_code 21 = .ok (.iload 4, 2)) rfl ?_
  refine g_callSI [.ref 10, .int (nI o), .int (nI 2)] (by decide +kernel : decode prog_4_method_3_code 23 = .ok (.invokestatic 19, 3)) lk_Rw_19 (c_due2 (σ := s_up (s_up σ 32 (3 * k + 0) (g (19 + 6 * o + 3))) 32 (3 * k + 1) (g (19 + 6 * o + 4))) hT ho) rfl rfl (Nat.le_of_ble_eq_true rfl) (Nat.le_of_ble_eq_true rfl) (fun r23 s23 h23 => ?_)
  obtain ⟨rfl, e23⟩ := h23
  have e23 := e23.symm; subst e23
  refine g_iastore (a := 3 * k + 2) (by decide +kernel : decode prog_4_method_3_code 26 = .ok (.iastore, 1)) rfl (by rw [Nat.mul_comm k 3]) (by omega) (by decide) ?_
  refine g_iincN (n := 1) (L' := [some (.ref 31), some (.int (nI k)), some (.ref 10), some (.int (nI o)), some (.int (nI (2 + 1)))]) (by decide +kernel : decode prog_4_method_3_code 27 = .ok (.iinc 4 1, 3)) rfl (by decide) (Nat.le_of_ble_eq_true rfl) rfl ?_
  refine g_goto (tgt := 3) (by decide +kernel : decode prog_4_method_3_code 30 = .ok (.goto (-27), 3)) (by decide) ?_
  refine g_sub (L' := [some (.ref 31), some (.int (nI k)), some (.ref 10), some (.int (nI o)), some (.int (nI 3))]) ⟨rfl, rfl, rfl, rfl, rfl, trivial⟩ ?_
  refine g_iload (by decide +kernel : decode prog_4_method_3_code 3 = .ok (.iload 4, 2)) rfl ?_
  refine g_iconst (v := nI 3) (by decide +kernel : decode prog_4_method_3_code 5 = .ok (.iconst 3, 1)) (by decide) ?_
  refine g_icmp_geN (tgt := 33) (by decide +kernel : decode prog_4_method_3_code 6 = .ok (.if_icmp .ge 27, 3)) (by decide) (by decide) (by decide) (fun _ => ?_) (fun h => False.elim (by revert h; decide))
  exact g_vret hR (by decide +kernel : decode prog_4_method_3_code 33 = .ok (.return_, 1)) rfl ⟨rfl, rfl⟩
set_option maxRecDepth 20000 in
theorem c_isRight {σ : Store} {g : Row} (hT : RP (tV σ) g) {k o : Nat} (ho : o < nn g) (hk : k < 10) : Ct ΛC mt_Rw_isRight 2 [.ref 31, .int (nI k), .ref 10, .int (nI o)] σ (PB σ (σ 32 (3 * k + 0) = g (19 + 6 * o + 3) ∧ σ 32 (3 * k + 1) = g (19 + 6 * o + 4) ∧ σ 32 (3 * k + 2) = g (19 + 6 * o + 5))) := by
  refine Ct.of (by decide) (Nat.le_of_ble_eq_true rfl) (fun X hR => ?_)
  show G (ΛC, mt_Rw_isRight, 2) X σ [some (.ref 31), some (.int (nI k)), some (.ref 10), some (.int (nI o)), none] [] 0
  have hn8 := hT.n8
  refine g_iconst (v := nI 0) (by decide +kernel : decode prog_4_method_4_code 0 = .ok (.iconst 0, 1)) (by decide) ?_
  refine g_istore (L' := [some (.ref 31), some (.int (nI k)), some (.ref 10), some (.int (nI o)), some (.int (nI 0))]) (by decide +kernel : decode prog_4_method_4_code 1 = .ok (.istore 4, 2)) (Nat.le_of_ble_eq_true rfl) rfl ?_
  refine g_iload (by decide +kernel : decode prog_4_method_4_code 3 = .ok (.iload 4, 2)) rfl ?_
  refine g_iconst (v := nI 3) (by decide +kernel : decode prog_4_method_4_code 5 = .ok (.iconst 3, 1)) (by decide) ?_
  refine g_icmp_geN (tgt := 38) (by decide +kernel : decode prog_4_method_4_code 6 = .ok (.if_icmp .ge 32, 3)) (by decide) (by decide) (by decide) (fun h => False.elim (by revert h; decide)) (fun _ => ?_)
  refine g_aload_n (by decide +kernel : decode prog_4_method_4_code 9 = .ok (.aload_n 0, 1)) rfl ?_
  refine g_getR (by decide +kernel : decode prog_4_method_4_code 10 = .ok (.getfield 9, 3)) fl_Rw_9 rfl rfl ?_
  refine g_iload_n (by decide +kernel : decode prog_4_method_4_code 13 = .ok (.iload_n 1, 1)) rfl ?_
  refine g_iconst (v := nI 3) (by decide +kernel : decode prog_4_method_4_code 14 = .ok (.iconst 3, 1)) (by decide) ?_
  refine g_imulN (by decide +kernel : decode prog_4_method_4_code 15 = .ok (.imul, 1)) ?_
  refine g_iload (by decide +kernel : decode prog_4_method_4_code 16 = .ok (.iload 4, 2)) rfl ?_
  refine g_iaddN (by decide +kernel : decode prog_4_method_4_code 18 = .ok (.iadd, 1)) ?_
  refine g_iaload (a := 3 * k + 0) (by decide +kernel : decode prog_4_method_4_code 19 = .ok (.iaload, 1)) rfl (by rw [Nat.mul_comm k 3]) (by omega) (by decide) ?_
  refine g_aload_n (by decide +kernel : decode prog_4_method_4_code 20 = .ok (.aload_n 2, 1)) rfl ?_
  refine g_iload_n (by decide +kernel : decode prog_4_method_4_code 21 = .ok (.iload_n 3, 1)) rfl ?_
  refine g_iload (by decide +kernel : decode prog_4_method_4_code 22 = .ok (.iload 4, 2)) rfl ?_
  refine g_callSI [.ref 10, .int (nI o), .int (nI 0)] (by decide +kernel : decode prog_4_method_4_code 24 = .ok (.invokestatic 19, 3)) lk_Rw_19 (c_due0 (σ := σ) hT ho) rfl rfl (Nat.le_of_ble_eq_true rfl) (Nat.le_of_ble_eq_true rfl) (fun r24 s24 h24 => ?_)
  obtain ⟨rfl, e24⟩ := h24
  have e24 := e24.symm; subst e24
  refine g_icmp_eq (tgt := 32) (by decide +kernel : decode prog_4_method_4_code 27 = .ok (.if_icmp .eq 5, 3)) (by decide) (fun b0 => ?_) (fun b0 => ?_)
  · refine g_iincN (n := 1) (L' := [some (.ref 31), some (.int (nI k)), some (.ref 10), some (.int (nI o)), some (.int (nI (0 + 1)))]) (by decide +kernel : decode prog_4_method_4_code 32 = .ok (.iinc 4 1, 3)) rfl (by decide) (Nat.le_of_ble_eq_true rfl) rfl ?_
    refine g_goto (tgt := 3) (by decide +kernel : decode prog_4_method_4_code 35 = .ok (.goto (-32), 3)) (by decide) ?_
    refine g_sub (L' := [some (.ref 31), some (.int (nI k)), some (.ref 10), some (.int (nI o)), some (.int (nI 1))]) ⟨rfl, rfl, rfl, rfl, rfl, trivial⟩ ?_
    refine g_iload (by decide +kernel : decode prog_4_method_4_code 3 = .ok (.iload 4, 2)) rfl ?_
    refine g_iconst (v := nI 3) (by decide +kernel : decode prog_4_method_4_code 5 = .ok (.iconst 3, 1)) (by decide) ?_
    refine g_icmp_geN (tgt := 38) (by decide +kernel : decode prog_4_method_4_code 6 = .ok (.if_icmp .ge 32, 3)) (by decide) (by decide) (by decide) (fun h => False.elim (by revert h; decide)) (fun _ => ?_)
    refine g_aload_n (by decide +kernel : decode prog_4_method_4_code 9 = .ok (.aload_n 0, 1)) rfl ?_
    refine g_getR (by decide +kernel : decode prog_4_method_4_code 10 = .ok (.getfield 9, 3)) fl_Rw_9 rfl rfl ?_
    refine g_iload_n (by decide +kernel : decode prog_4_method_4_code 13 = .ok (.iload_n 1, 1)) rfl ?_
    refine g_iconst (v := nI 3) (by decide +kernel : decode prog_4_method_4_code 14 = .ok (.iconst 3, 1)) (by decide) ?_
    refine g_imulN (by decide +kernel : decode prog_4_method_4_code 15 = .ok (.imul, 1)) ?_
    refine g_iload (by decide +kernel : decode prog_4_method_4_code 16 = .ok (.iload 4, 2)) rfl ?_
    refine g_iaddN (by decide +kernel : decode prog_4_method_4_code 18 = .ok (.iadd, 1)) ?_
    refine g_iaload (a := 3 * k + 1) (by decide +kernel : decode prog_4_method_4_code 19 = .ok (.iaload, 1)) rfl (by rw [Nat.mul_comm k 3]) (by omega) (by decide) ?_
    refine g_aload_n (by decide +kernel : decode prog_4_method_4_code 20 = .ok (.aload_n 2, 1)) rfl ?_
    refine g_iload_n (by decide +kernel : decode prog_4_method_4_code 21 = .ok (.iload_n 3, 1)) rfl ?_
    refine g_iload (by decide +kernel : decode prog_4_method_4_code 22 = .ok (.iload 4, 2)) rfl ?_
    refine g_callSI [.ref 10, .int (nI o), .int (nI 1)] (by decide +kernel : decode prog_4_method_4_code 24 = .ok (.invokestatic 19, 3)) lk_Rw_19 (c_due1 (σ := σ) hT ho) rfl rfl (Nat.le_of_ble_eq_true rfl) (Nat.le_of_ble_eq_true rfl) (fun r24 s24 h24 => ?_)
    obtain ⟨rfl, e24⟩ := h24
    have e24 := e24.symm; subst e24
    refine g_icmp_eq (tgt := 32) (by decide +kernel : decode prog_4_method_4_code 27 = .ok (.if_icmp .eq 5, 3)) (by decide) (fun b1 => ?_) (fun b1 => ?_)
    · refine g_iincN (n := 1) (L' := [some (.ref 31), some (.int (nI k)), some (.ref 10), some (.int (nI o)), some (.int (nI (1 + 1)))]) (by decide +kernel : decode prog_4_method_4_code 32 = .ok (.iinc 4 1, 3)) rfl (by decide) (Nat.le_of_ble_eq_true rfl) rfl ?_
      refine g_goto (tgt := 3) (by decide +kernel : decode prog_4_method_4_code 35 = .ok (.goto (-32), 3)) (by decide) ?_
      refine g_sub (L' := [some (.ref 31), some (.int (nI k)), some (.ref 10), some (.int (nI o)), some (.int (nI 2))]) ⟨rfl, rfl, rfl, rfl, rfl, trivial⟩ ?_
      refine g_iload (by decide +kernel : decode prog_4_method_4_code 3 = .ok (.iload 4, 2)) rfl ?_
      refine g_iconst (v := nI 3) (by decide +kernel : decode prog_4_method_4_code 5 = .ok (.iconst 3, 1)) (by decide) ?_
      refine g_icmp_geN (tgt := 38) (by decide +kernel : decode prog_4_method_4_code 6 = .ok (.if_icmp .ge 32, 3)) (by decide) (by decide) (by decide) (fun h => False.elim (by revert h; decide)) (fun _ => ?_)
      refine g_aload_n (by decide +kernel : decode prog_4_method_4_code 9 = .ok (.aload_n 0, 1)) rfl ?_
      refine g_getR (by decide +kernel : decode prog_4_method_4_code 10 = .ok (.getfield 9, 3)) fl_Rw_9 rfl rfl ?_
      refine g_iload_n (by decide +kernel : decode prog_4_method_4_code 13 = .ok (.iload_n 1, 1)) rfl ?_
      refine g_iconst (v := nI 3) (by decide +kernel : decode prog_4_method_4_code 14 = .ok (.iconst 3, 1)) (by decide) ?_
      refine g_imulN (by decide +kernel : decode prog_4_method_4_code 15 = .ok (.imul, 1)) ?_
      refine g_iload (by decide +kernel : decode prog_4_method_4_code 16 = .ok (.iload 4, 2)) rfl ?_
      refine g_iaddN (by decide +kernel : decode prog_4_method_4_code 18 = .ok (.iadd, 1)) ?_
      refine g_iaload (a := 3 * k + 2) (by decide +kernel : decode prog_4_method_4_code 19 = .ok (.iaload, 1)) rfl (by rw [Nat.mul_comm k 3]) (by omega) (by decide) ?_
      refine g_aload_n (by decide +kernel : decode prog_4_method_4_code 20 = .ok (.aload_n 2, 1)) rfl ?_
      refine g_iload_n (by decide +kernel : decode prog_4_method_4_code 21 = .ok (.iload_n 3, 1)) rfl ?_
      refine g_iload (by decide +kernel : decode prog_4_method_4_code 22 = .ok (.iload 4, 2)) rfl ?_
      refine g_callSI [.ref 10, .int (nI o), .int (nI 2)] (by decide +kernel : decode prog_4_method_4_code 24 = .ok (.invokestatic 19, 3)) lk_Rw_19 (c_due2 (σ := σ) hT ho) rfl rfl (Nat.le_of_ble_eq_true rfl) (Nat.le_of_ble_eq_true rfl) (fun r24 s24 h24 => ?_)
      obtain ⟨rfl, e24⟩ := h24
      have e24 := e24.symm; subst e24
      refine g_icmp_eq (tgt := 32) (by decide +kernel : decode prog_4_method_4_code 27 = .ok (.if_icmp .eq 5, 3)) (by decide) (fun b2 => ?_) (fun b2 => ?_)
      · refine g_iincN (n := 1) (L' := [some (.ref 31), some (.int (nI k)), some (.ref 10), some (.int (nI o)), some (.int (nI (2 + 1)))]) (by decide +kernel : decode prog_4_method_4_code 32 = .ok (.iinc 4 1, 3)) rfl (by decide) (Nat.le_of_ble_eq_true rfl) rfl ?_
        refine g_goto (tgt := 3) (by decide +kernel : decode prog_4_method_4_code 35 = .ok (.goto (-32), 3)) (by decide) ?_
        refine g_sub (L' := [some (.ref 31), some (.int (nI k)), some (.ref 10), some (.int (nI o)), some (.int (nI 3))]) ⟨rfl, rfl, rfl, rfl, rfl, trivial⟩ ?_
        refine g_iload (by decide +kernel : decode prog_4_method_4_code 3 = .ok (.iload 4, 2)) rfl ?_
        refine g_iconst (v := nI 3) (by decide +kernel : decode prog_4_method_4_code 5 = .ok (.iconst 3, 1)) (by decide) ?_
        refine g_icmp_geN (tgt := 38) (by decide +kernel : decode prog_4_method_4_code 6 = .ok (.if_icmp .ge 32, 3)) (by decide) (by decide) (by decide) (fun _ => ?_) (fun h => False.elim (by revert h; decide))
        refine g_iconst (v := nI 1) (by decide +kernel : decode prog_4_method_4_code 38 = .ok (.iconst 1, 1)) (by decide) ?_
        exact g_zret hR (by decide +kernel : decode prog_4_method_4_code 39 = .ok (.ireturn, 1)) rfl (by decide) ⟨_, rfl, ⟨rfl, Or.inl ⟨rfl, b0, b1, b2⟩⟩⟩
      · refine g_iconst (v := nI 0) (by decide +kernel : decode prog_4_method_4_code 30 = .ok (.iconst 0, 1)) (by decide) ?_
        exact g_zret hR (by decide +kernel : decode prog_4_method_4_code 31 = .ok (.ireturn, 1)) rfl (by decide) ⟨_, rfl, ⟨rfl, Or.inr ⟨rfl, fun z => b2 z.2.2⟩⟩⟩
    · refine g_iconst (v := nI 0) (by decide +kernel : decode prog_4_method_4_code 30 = .ok (.iconst 0, 1)) (by decide) ?_
      exact g_zret hR (by decide +kernel : decode prog_4_method_4_code 31 = .ok (.ireturn, 1)) rfl (by decide) ⟨_, rfl, ⟨rfl, Or.inr ⟨rfl, fun z => b1 z.2.1⟩⟩⟩
  · refine g_iconst (v := nI 0) (by decide +kernel : decode prog_4_method_4_code 30 = .ok (.iconst 0, 1)) (by decide) ?_
    exact g_zret hR (by decide +kernel : decode prog_4_method_4_code 31 = .ok (.ireturn, 1)) rfl (by decide) ⟨_, rfl, ⟨rfl, Or.inr ⟨rfl, fun z => b0 z.1⟩⟩⟩
set_option maxRecDepth 20000 in
theorem c_holdsRow (σ : Store) {t : Nat} (ht : t < 4) : Ct ΛC mt_Sv_holdsRow 0 [.ref 37, .int (nI t)] σ (PB σ (¬ σ 39 t = -1)) := by
  refine Ct.of (by decide) (Nat.le_of_ble_eq_true rfl) (fun X hR => ?_)
  show G (ΛC, mt_Sv_holdsRow, 0) X σ [some (.ref 37), some (.int (nI t))] [] 0
  refine g_aload_n (by decide +kernel : decode prog_6_method_2_code 0 = .ok (.aload_n 0, 1)) rfl ?_
  refine g_getR (by decide +kernel : decode prog_6_method_2_code 1 = .ok (.getfield 15, 3)) fl_Sv_15 rfl rfl ?_
  refine g_iload_n (by decide +kernel : decode prog_6_method_2_code 4 = .ok (.iload_n 1, 1)) rfl ?_
  refine g_iaload (a := t) (by decide +kernel : decode prog_6_method_2_code 5 = .ok (.iaload, 1)) rfl rfl (by omega) (by decide) ?_
  refine g_iconst (v := (-1)) (by decide +kernel : decode prog_6_method_2_code 6 = .ok (.iconst (-1), 1)) (by decide) ?_
  refine g_icmp_eq (tgt := 14) (by decide +kernel : decode prog_6_method_2_code 7 = .ok (.if_icmp .eq 7, 3)) (by decide) (fun h7 => ?_) (fun h7 => ?_)
  · refine g_iconst (v := nI 0) (by decide +kernel : decode prog_6_method_2_code 14 = .ok (.iconst 0, 1)) (by decide) ?_
    exact g_zret hR (by decide +kernel : decode prog_6_method_2_code 15 = .ok (.ireturn, 1)) rfl (by decide) ⟨_, rfl, ⟨rfl, Or.inr ⟨rfl, fun z => z h7⟩⟩⟩
  · refine g_iconst (v := nI 1) (by decide +kernel : decode prog_6_method_2_code 10 = .ok (.iconst 1, 1)) (by decide) ?_
    refine g_goto (tgt := 15) (by decide +kernel : decode prog_6_method_2_code 11 = .ok (.goto 4, 3)) (by decide) ?_
    exact g_zret hR (by decide +kernel : decode prog_6_method_2_code 15 = .ok (.ireturn, 1)) rfl (by decide) ⟨_, rfl, ⟨rfl, Or.inl ⟨rfl, h7⟩⟩⟩
set_option maxRecDepth 20000 in
theorem c_holdNothing (σ : Store) {t : Nat} (ht : t < 4) : Ct ΛC mt_Sv_holdNothing 0 [.ref 37, .int (nI t)] σ (PU (s_up (s_up (s_up σ 38 t (-1)) 39 t (-1)) 40 t (nI 0))) := by
  refine Ct.of (by decide) (Nat.le_of_ble_eq_true rfl) (fun X hR => ?_)
  show G (ΛC, mt_Sv_holdNothing, 0) X σ [some (.ref 37), some (.int (nI t))] [] 0
  refine g_aload_n (by decide +kernel : decode prog_6_method_5_code 0 = .ok (.aload_n 0, 1)) rfl ?_
  refine g_getR (by decide +kernel : decode prog_6_method_5_code 1 = .ok (.getfield 11, 3)) fl_Sv_11 rfl rfl ?_
  refine g_iload_n (by decide +kernel : decode prog_6_method_5_code 4 = .ok (.iload_n 1, 1)) rfl ?_
  refine g_iconst (v := (-1)) (by decide +kernel : decode prog_6_method_5_code 5 = .ok (.iconst (-1), 1)) (by decide) ?_
  refine g_iastore (a := t) (by decide +kernel : decode prog_6_method_5_code 6 = .ok (.iastore, 1)) rfl rfl (by omega) (by decide) ?_
  refine g_aload_n (by decide +kernel : decode prog_6_method_5_code 7 = .ok (.aload_n 0, 1)) rfl ?_
  refine g_getR (by decide +kernel : decode prog_6_method_5_code 8 = .ok (.getfield 15, 3)) fl_Sv_15 rfl rfl ?_
  refine g_iload_n (by decide +kernel : decode prog_6_method_5_code 11 = .ok (.iload_n 1, 1)) rfl ?_
  refine g_iconst (v := (-1)) (by decide +kernel : decode prog_6_method_5_code 12 = .ok (.iconst (-1), 1)) (by decide) ?_
  refine g_iastore (a := t) (by decide +kernel : decode prog_6_method_5_code 13 = .ok (.iastore, 1)) rfl rfl (by omega) (by decide) ?_
  refine g_aload_n (by decide +kernel : decode prog_6_method_5_code 14 = .ok (.aload_n 0, 1)) rfl ?_
  refine g_getR (by decide +kernel : decode prog_6_method_5_code 15 = .ok (.getfield 18, 3)) fl_Sv_18 rfl rfl ?_
  refine g_iload_n (by decide +kernel : decode prog_6_method_5_code 18 = .ok (.iload_n 1, 1)) rfl ?_
  refine g_iconst (v := nI 0) (by decide +kernel : decode prog_6_method_5_code 19 = .ok (.iconst 0, 1)) (by decide) ?_
  refine g_iastore (a := t) (by decide +kernel : decode prog_6_method_5_code 20 = .ok (.iastore, 1)) rfl rfl (by omega) (by decide) ?_
  exact g_vret hR (by decide +kernel : decode prog_6_method_5_code 21 = .ok (.return_, 1)) rfl ⟨rfl, rfl⟩
set_option maxRecDepth 20000 in
theorem c_holdPerson (σ : Store) {t : Nat} (ht : t < 4) (v : Int32) : Ct ΛC mt_Sv_holdPerson 1 [.ref 37, .int (nI t), .int v] σ (PU (s_up (s_up (s_up (s_up σ 38 t (-1)) 39 t (-1)) 40 t (nI 0)) 38 t v)) := by
  refine Ct.of (by decide) (Nat.le_of_ble_eq_true rfl) (fun X hR => ?_)
  show G (ΛC, mt_Sv_holdPerson, 1) X σ [some (.ref 37), some (.int (nI t)), some (.int v)] [] 0
  refine g_aload_n (by decide +kernel : decode prog_6_method_3_code 0 = .ok (.aload_n 0, 1)) rfl ?_
  refine g_iload_n (by decide +kernel : decode prog_6_method_3_code 1 = .ok (.iload_n 1, 1)) rfl ?_
  refine g_callVV [.int (nI t)] (by decide +kernel : decode prog_6_method_3_code 2 = .ok (.invokevirtual 21, 3)) lk_Sv_21 (c_holdNothing _ ht) rfl rfl rfl rfl (Nat.le_of_ble_eq_true rfl) (Nat.le_of_ble_eq_true rfl) (fun s2 h2 => ?_)
  obtain rfl := h2
  refine g_aload_n (by decide +kernel : decode prog_6_method_3_code 5 = .ok (.aload_n 0, 1)) rfl ?_
  refine g_getR (by decide +kernel : decode prog_6_method_3_code 6 = .ok (.getfield 11, 3)) fl_Sv_11 rfl rfl ?_
  refine g_iload_n (by decide +kernel : decode prog_6_method_3_code 9 = .ok (.iload_n 1, 1)) rfl ?_
  refine g_iload_n (by decide +kernel : decode prog_6_method_3_code 10 = .ok (.iload_n 2, 1)) rfl ?_
  refine g_iastore (a := t) (by decide +kernel : decode prog_6_method_3_code 11 = .ok (.iastore, 1)) rfl rfl (by omega) (by decide) ?_
  exact g_vret hR (by decide +kernel : decode prog_6_method_3_code 12 = .ok (.return_, 1)) rfl ⟨rfl, rfl⟩
set_option maxRecDepth 20000 in
theorem c_holdRow (σ : Store) {t : Nat} (ht : t < 4) (v u : Int32) : Ct ΛC mt_Sv_holdRow 1 [.ref 37, .int (nI t), .int v, .int u] σ (PU (s_up (s_up (s_up (s_up (s_up σ 38 t (-1)) 39 t (-1)) 40 t (nI 0)) 39 t v) 40 t u)) := by
  refine Ct.of (by decide) (Nat.le_of_ble_eq_true rfl) (fun X hR => ?_)
  show G (ΛC, mt_Sv_holdRow, 1) X σ [some (.ref 37), some (.int (nI t)), some (.int v), some (.int u)] [] 0
  refine g_aload_n (by decide +kernel : decode prog_6_method_4_code 0 = .ok (.aload_n 0, 1)) rfl ?_
  refine g_iload_n (by decide +kernel : decode prog_6_method_4_code 1 = .ok (.iload_n 1, 1)) rfl ?_
  refine g_callVV [.int (nI t)] (by decide +kernel : decode prog_6_method_4_code 2 = .ok (.invokevirtual 21, 3)) lk_Sv_21 (c_holdNothing _ ht) rfl rfl rfl rfl (Nat.le_of_ble_eq_true rfl) (Nat.le_of_ble_eq_true rfl) (fun s2 h2 => ?_)
  obtain rfl := h2
  refine g_aload_n (by decide +kernel : decode prog_6_method_4_code 5 = .ok (.aload_n 0, 1)) rfl ?_
  refine g_getR (by decide +kernel : decode prog_6_method_4_code 6 = .ok (.getfield 15, 3)) fl_Sv_15 rfl rfl ?_
  refine g_iload_n (by decide +kernel : decode prog_6_method_4_code 9 = .ok (.iload_n 1, 1)) rfl ?_
  refine g_iload_n (by decide +kernel : decode prog_6_method_4_code 10 = .ok (.iload_n 2, 1)) rfl ?_
  refine g_iastore (a := t) (by decide +kernel : decode prog_6_method_4_code 11 = .ok (.iastore, 1)) rfl rfl (by omega) (by decide) ?_
  refine g_aload_n (by decide +kernel : decode prog_6_method_4_code 12 = .ok (.aload_n 0, 1)) rfl ?_
  refine g_getR (by decide +kernel : decode prog_6_method_4_code 13 = .ok (.getfield 18, 3)) fl_Sv_18 rfl rfl ?_
  refine g_iload_n (by decide +kernel : decode prog_6_method_4_code 16 = .ok (.iload_n 1, 1)) rfl ?_
  refine g_iload_n (by decide +kernel : decode prog_6_method_4_code 17 = .ok (.iload_n 3, 1)) rfl ?_
  refine g_iastore (a := t) (by decide +kernel : decode prog_6_method_4_code 18 = .ok (.iastore, 1)) rfl rfl (by omega) (by decide) ?_
  exact g_vret hR (by decide +kernel : decode prog_6_method_4_code 19 = .ok (.return_, 1)) rfl ⟨rfl, rfl⟩
