/-! THE PROGRAM: its parks among all its cells; what is tried -/
theorem n_has {σ : Store} {f : Row} (h : RP (nV σ) f) (x : Int32) : Ct ΛC mt_Pk_has 0 [.ref 1, .int x] σ (PB σ (∃ j, j < nn f ∧ x = nI j)) := emNB (c_has h x) rfl
theorem n_isHidden {σ : Store} {f : Row} (h : RP (nV σ) f) {o : Nat} (ho : o < nn f) : Ct ΛC mt_Pk_isHidden 0 [.ref 1, .int (nI o)] σ (PB σ (f (19 + 6 * o + 4) = nI 1)) := emNB (c_isHidden h ho) rfl
theorem t_isHidden {σ : Store} {f : Row} (h : RP (tV σ) f) {o : Nat} (ho : o < nn f) : Ct ΛC mt_Pk_isHidden 0 [.ref 10, .int (nI o)] σ (PB σ (f (19 + 6 * o + 4) = nI 1)) := emTB (c_isHidden h ho) rfl
theorem n_hiddenOnes {σ : Store} {f : Row} (h : RP (nV σ) f) : Ct ΛC mt_Pk_hiddenOnes 1 [.ref 1] σ (PF (nI (hc f)) σ) := emNF (c_hiddenOnes h) rfl
theorem t_hiddenOnes {σ : Store} {f : Row} (h : RP (tV σ) f) : Ct ΛC mt_Pk_hiddenOnes 1 [.ref 10] σ (PF (nI (hc f)) σ) := emTF (c_hiddenOnes h) rfl
theorem n_peopleAt {σ : Store} {f : Row} (h : RP (nV σ) f) {p : Nat} (hp : p < 12) : Ct ΛC mt_Pk_peopleAt 0 [.ref 1, .int (nI p)] σ (PF (nI (atm f p (nn f))) σ) := emNF (c_peopleAt h hp) rfl
theorem n_hidingPlaces {σ : Store} {f : Row} (h : RP (nV σ) f) : Ct ΛC mt_Pk_hidingPlaces 1 [.ref 1] σ (PF (nI (hpl f (nn f))) σ) := emNF (c_hidingPlaces h) rfl
theorem n_peopleInCompany {σ : Store} {f : Row} (h : RP (nV σ) f) : Ct ΛC mt_Pk_peopleInCompany 1 [.ref 1] σ (PF (nI (crw f (nn f))) σ) := emNF (c_peopleInCompany h) rfl
theorem n_hides {σ : Store} {f : Row} (h : RP (nV σ) f) {o : Nat} (ho : o < nn f) : Ct ΛC mt_Pk_hides 0 [.ref 1, .int (nI o)] σ (PF (hidesF f o) σ) := emNF (c_hides h ho) rfl
theorem n_sees {σ : Store} {f : Row} (h : RP (nV σ) f) {o : Nat} (ho : o < nn f) : Ct ΛC mt_Pk_sees 0 [.ref 1, .int (nI o)] σ (PF (seesF f o) σ) := emNF (c_sees h ho) rfl
theorem n_strides {σ : Store} {f : Row} (h : RP (nV σ) f) {o : Nat} (ho : o < nn f) : Ct ΛC mt_Pk_strides 0 [.ref 1, .int (nI o)] σ (PF (stridesF f o) σ) := emNF (c_strides h ho) rfl
theorem t_hide0 {σ τ : Store} {f g : Row} (h : RX σ τ f) (hT : RP (tV σ) g) {o : Nat} (ho : o < nn g) : Ct ΛC mt_Pk_hide 0 [.ref 10, .int (nI o), .int (nI 0)] σ (PV (fun σ' => RX σ' τ f ∧ RP (tV σ') (upd g (19 + 6 * o + 4) (nI 0)))) := by
  refine (emTV (c_hide0 hT ho) rfl).post ?_
  rintro v σ' ⟨e, ρ, ⟨h1, _⟩, rfl⟩
  exact ⟨e, h.T ρ, tV_T h1⟩
theorem n_hide0 {σ τ : Store} {f : Row} (h : RX σ τ f) {o : Nat} (ho : o < nn f) : Ct ΛC mt_Pk_hide 0 [.ref 1, .int (nI o), .int (nI 0)] σ (PV (fun σ' => RX σ' τ (upd f (19 + 6 * o + 4) (nI 0)))) := by
  refine (emNV (c_hide0 h.n ho) rfl).post ?_
  rintro v σ' ⟨e, ρ, ⟨h1, _⟩, rfl⟩
  exact ⟨e, h.N h1⟩
theorem n_adm0 {σ τ : Store} {f : Row} (h : RX σ τ f) {k a w p : Nat} (hn : nn f < 8) (hk : k ≤ 5) (ha : a ≤ 99) (hw : w ≤ 9) (hp : p ≤ 11) : Ct ΛC mt_Pk_adm 1 [.ref 1, .int (nI k), .int (nI a), .int (nI w), .int (nI p), .int (nI 0)] σ (PV (fun σ' => RX σ' τ (adm f k a w p 1))) := by
  refine (emNV (c_adm0 h.n hn hk ha hw hp) rfl).post ?_
  rintro v σ' ⟨e, ρ, h1, rfl⟩
  exact ⟨e, h.N h1⟩
theorem t_adm0 {σ τ : Store} {f g : Row} (h : RX σ τ f) (hT : RP (tV σ) g) {k a w p : Nat} (hn : nn g < 8) (hk : k ≤ 5) (ha : a ≤ 99) (hw : w ≤ 9) (hp : p ≤ 11) : Ct ΛC mt_Pk_adm 1 [.ref 10, .int (nI k), .int (nI a), .int (nI w), .int (nI p), .int (nI 0)] σ (PV (fun σ' => ∃ ρ, RP ρ (adm g k a w p 1) ∧ σ' = over σ ixT ρ)) :=
  emTV (c_adm0 hT hn hk ha hw hp) rfl
theorem t_hide1 {σ τ : Store} {f g : Row} (h : RX σ τ f) (hT : RP (tV σ) g) {o : Nat} (ho : o < nn g) : Ct ΛC mt_Pk_hide 0 [.ref 10, .int (nI o), .int (nI 1)] σ (PV (fun σ' => RX σ' τ f ∧ RP (tV σ') (upd g (19 + 6 * o + 4) (nI 1)))) := by
  refine (emTV (c_hide1 hT ho) rfl).post ?_
  rintro v σ' ⟨e, ρ, ⟨h1, _⟩, rfl⟩
  exact ⟨e, h.T ρ, tV_T h1⟩
theorem n_hide1 {σ τ : Store} {f : Row} (h : RX σ τ f) {o : Nat} (ho : o < nn f) : Ct ΛC mt_Pk_hide 0 [.ref 1, .int (nI o), .int (nI 1)] σ (PV (fun σ' => RX σ' τ (upd f (19 + 6 * o + 4) (nI 1)))) := by
  refine (emNV (c_hide1 h.n ho) rfl).post ?_
  rintro v σ' ⟨e, ρ, ⟨h1, _⟩, rfl⟩
  exact ⟨e, h.N h1⟩
theorem n_adm1 {σ τ : Store} {f : Row} (h : RX σ τ f) {k a w p : Nat} (hn : nn f < 8) (hk : k ≤ 5) (ha : a ≤ 99) (hw : w ≤ 9) (hp : p ≤ 11) : Ct ΛC mt_Pk_adm 1 [.ref 1, .int (nI k), .int (nI a), .int (nI w), .int (nI p), .int (nI 1)] σ (PV (fun σ' => RX σ' τ (adm f k a w p 0))) := by
  refine (emNV (c_adm1 h.n hn hk ha hw hp) rfl).post ?_
  rintro v σ' ⟨e, ρ, h1, rfl⟩
  exact ⟨e, h.N h1⟩
theorem t_adm1 {σ τ : Store} {f g : Row} (h : RX σ τ f) (hT : RP (tV σ) g) {k a w p : Nat} (hn : nn g < 8) (hk : k ≤ 5) (ha : a ≤ 99) (hw : w ≤ 9) (hp : p ≤ 11) : Ct ΛC mt_Pk_adm 1 [.ref 10, .int (nI k), .int (nI a), .int (nI w), .int (nI p), .int (nI 1)] σ (PV (fun σ' => ∃ ρ, RP ρ (adm g k a w p 0) ∧ σ' = over σ ixT ρ)) :=
  emTV (c_adm1 hT hn hk ha hw hp) rfl
theorem t_passYear {σ τ : Store} {f g : Row} (h : RX σ τ f) (hT : RP (tV σ) g) {m : Nat} (hm : m < 256) : Ct ΛC mt_Pk_passYear 3 [.ref 10, .int (nI m)] σ (PV (fun σ' => RX σ' τ f ∧ RP (tV σ') (yF m g) ∧ RB (tV σ') (fbF m g) (nn g))) := by
  refine (emTV (c_passYear hT (b := fun _ => 0) hm) rfl).post ?_
  rintro v σ' ⟨e, ρ, ⟨h1, h2⟩, rfl⟩
  exact ⟨e, h.T ρ, tV_T h1, tB_T h2⟩
theorem t_passYears {σ τ : Store} {f g : Row} (h : RX σ τ f) (hT : RP (tV σ) g) {m n : Nat} (hm : m < 256) (hn : n < 2 ^ 31) : Ct ΛC mt_Pk_passYears 4 [.ref 10, .int (nI n), .int (nI m)] σ (PV (fun σ' => RX σ' τ f ∧ RP (tV σ') (yN m g n))) := by
  refine (emTV (c_passYears hT hm hn) rfl).post ?_
  rintro v σ' ⟨e, ρ, h1, rfl⟩
  exact ⟨e, h.T ρ, tV_T h1⟩
theorem t_passYearByDraws {σ τ : Store} {f g : Row} (h : RX σ τ f) (hT : RP (tV σ) g) : Ct ΛC mt_Pk_passYearByDraws 4 [.ref 10] σ (PV (fun σ' => RX σ' τ f ∧ RP (tV σ') (yearT g))) := by
  refine (emTV (c_passYearByDraws hT) rfl).post ?_
  rintro v σ' ⟨e, ρ, h1, rfl⟩
  exact ⟨e, h.T ρ, tV_T h1⟩
theorem n_passYears {σ τ : Store} {f : Row} (h : RX σ τ f) {m n : Nat} (hm : m < 256) (hn : n < 2 ^ 31) : Ct ΛC mt_Pk_passYears 4 [.ref 1, .int (nI n), .int (nI m)] σ (PV (fun σ' => RX σ' τ (yN m f n))) := by
  refine (emNV (c_passYears h.n hm hn) rfl).post ?_
  rintro v σ' ⟨e, ρ, h1, rfl⟩
  exact ⟨e, h.N h1⟩
theorem n_passYearByDraws {σ τ : Store} {f : Row} (h : RX σ τ f) : Ct ΛC mt_Pk_passYearByDraws 4 [.ref 1] σ (PV (fun σ' => RX σ' τ (yearT f))) := by
  refine (emNV (c_passYearByDraws h.n) rfl).post ?_
  rintro v σ' ⟨e, ρ, h1, rfl⟩
  exact ⟨e, h.N h1⟩
/-- an answer, and the relation behind it -/
abbrev cP (τ : Store) (v : Int32) (f : Row) : Option Value → Store → Prop := PI (fun r σ' => r = v ∧ RX σ' τ f)
theorem upd_cm {f : Row} {i j : Nat} {a b : Int32} (h : i ≠ j) : upd (upd f i a) j b = upd (upd f j b) i a := by
  funext c
  unfold upd
  by_cases h1 : c = i
  · have h2 : c ≠ j := fun e => h (h1.symm.trans e)
    simp only [if_pos h1, if_neg h2]
  · simp only [if_neg h1]
def YP (τ : Store) (f g : Row) (o m : Nat) : Int32 → Store → Prop := fun r σ' => r = nI (shw m o 61 g) ∧ RX σ' τ f ∧ ∀ j, shw m o 61 g = j + 1 → RB (tV σ') (fbF m (yN m g j)) (nn g)
set_option maxRecDepth 20000 in
theorem c_yus_lp {X : CX} {τ : Store} {f g : Row} {o m : Nat} (hI : Inv g) (ho : o < nn g) (hm : m < 256) : ∀ (b9 k : Nat) (σ : Store), RX σ τ f → RP (tV σ) (yN m g k) → (∀ j, k = j + 1 → RB (tV σ) (fbF m (yN m g j)) (nn g)) → k ≤ 61 → 61 - k < b9 → (∀ i, i < k → yN m g i (19 + 6 * o + 4) = nI 1) → Rt (ΛC, mt_Tr_yearsUntilShown, 4) (PI (YP τ f g o m)) X → G (ΛC, mt_Tr_yearsUntilShown, 4) X σ [some (.ref 28), some (.int (nI o)), some (.int (nI m)), some (.int (nI k))] [] 2 := by
  intro b9
  induction b9 with
  | zero => intro k σ h hT hB hk hb hh hR; omega
  | succ b9 ih =>
  intro k σ h hT hB hk hb hh hR
  have hN := (yN_inv (m := m) hI k).2
  refine g_iload_n (by decide +kernel : decode prog_8_method_3_code 2 = .ok (.iload_n 3, 1)) rfl ?_
  refine g_bipush (v := nI 60) (by decide +kernel : decode prog_8_method_3_code 3 = .ok (.bipush 60, 2)) (by decide) ?_
  refine g_icmp_gtN (tgt := 35) (by decide +kernel : decode prog_8_method_3_code 5 = .ok (.if_icmp .gt 30, 3)) (by decide) (by omega) (by decide) (fun h5 => ?_) (fun h5 => ?_)
  · refine g_bipush (v := nI 61) (by decide +kernel : decode prog_8_method_3_code 35 = .ok (.bipush 61, 2)) (by decide) ?_
    have e9 : shw m o 61 g = 61 := shw_stop (k := 61) (fun i hi => hh i (by omega)) (by decide) (Or.inl rfl)
    exact g_iret hR (by decide +kernel : decode prog_8_method_3_code 37 = .ok (.ireturn, 1)) rfl ⟨_, rfl, by rw [e9], h, fun j ej => hB j (by omega)⟩
  · refine g_aload_n (by decide +kernel : decode prog_8_method_3_code 8 = .ok (.aload_n 0, 1)) rfl ?_
    refine g_getR (by decide +kernel : decode prog_8_method_3_code 9 = .ok (.getfield 18, 3)) fl_Tr_18 rfl rfl ?_
    refine g_iload_n (by decide +kernel : decode prog_8_method_3_code 12 = .ok (.iload_n 1, 1)) rfl ?_
    refine g_callVI [.int (nI o)] (by decide +kernel : decode prog_8_method_3_code 13 = .ok (.invokevirtual 29, 3)) lk_Tr_29 (t_isHidden hT (o := o) (by omega)) rfl rfl rfl rfl (Nat.le_of_ble_eq_true rfl) (Nat.le_of_ble_eq_true rfl) (fun r13 s13 h13 => ?_)
    rcases h13 with ⟨e13, ⟨rfl, q13⟩ | ⟨rfl, q13⟩⟩
    · have e13 := e13.symm; subst e13
      refine g_if_neN (tgt := 21) (by decide +kernel : decode prog_8_method_3_code 16 = .ok (.ifCond .ne 5, 3)) (by decide) (by decide) (fun _ => ?_) (fun h => False.elim (by revert h; decide))
      refine g_aload_n (by decide +kernel : decode prog_8_method_3_code 21 = .ok (.aload_n 0, 1)) rfl ?_
      refine g_getR (by decide +kernel : decode prog_8_method_3_code 22 = .ok (.getfield 18, 3)) fl_Tr_18 rfl rfl ?_
      refine g_iload_n (by decide +kernel : decode prog_8_method_3_code 25 = .ok (.iload_n 2, 1)) rfl ?_
      refine g_callVV [.int (nI m)] (by decide +kernel : decode prog_8_method_3_code 26 = .ok (.invokevirtual 33, 3)) lk_Tr_33 (t_passYear h hT (m := m) hm) rfl rfl rfl rfl (Nat.le_of_ble_eq_true rfl) (Nat.le_of_ble_eq_true rfl) (fun s26 h26 => ?_)
      obtain ⟨g26, u26, r26⟩ := h26
      refine g_iincN (n := 1) (L' := [some (.ref 28), some (.int (nI o)), some (.int (nI m)), some (.int (nI (k + 1)))]) (by decide +kernel : decode prog_8_method_3_code 29 = .ok (.iinc 3 1, 3)) rfl (by decide) (Nat.le_of_ble_eq_true rfl) rfl ?_
      refine g_goto (tgt := 2) (by decide +kernel : decode prog_8_method_3_code 32 = .ok (.goto (-30), 3)) (by decide) ?_
      exact ih (k + 1) _ g26 u26 (fun j ej => by have e : k = j := (by omega); subst e; rw [hN] at r26; exact r26) (by omega) (by omega) (fun i hi => by rcases (show i < k ∨ i = k by omega) with z | rfl; exact hh i z; exact q13) hR
    · have e13 := e13.symm; subst e13
      refine g_if_neN (tgt := 21) (by decide +kernel : decode prog_8_method_3_code 16 = .ok (.ifCond .ne 5, 3)) (by decide) (by decide) (fun h => False.elim (by revert h; decide)) (fun _ => ?_)
      refine g_iload_n (by decide +kernel : decode prog_8_method_3_code 19 = .ok (.iload_n 3, 1)) rfl ?_
      have e9 : shw m o 61 g = k := shw_stop hh hk (Or.inr q13)
      exact g_iret hR (by decide +kernel : decode prog_8_method_3_code 20 = .ok (.ireturn, 1)) rfl ⟨_, rfl, by rw [e9], h, fun j ej => hB j (by omega)⟩
set_option maxRecDepth 20000 in
theorem c_yus {σ τ : Store} {f : Row} (h : RX σ τ f) {g : Row} (hT : RP (tV σ) g) {o m : Nat} (ho : o < nn g) (hm : m < 256) : Ct ΛC mt_Tr_yearsUntilShown 4 [.ref 28, .int (nI o), .int (nI m)] σ (PI (YP τ f g o m)) := by
  refine Ct.of (by decide) (Nat.le_of_ble_eq_true rfl) (fun X hR => ?_)
  show G (ΛC, mt_Tr_yearsUntilShown, 4) X σ [some (.ref 28), some (.int (nI o)), some (.int (nI m)), none] [] 0
  have hn8 := h.n8
  refine g_iconst (v := nI 0) (by decide +kernel : decode prog_8_method_3_code 0 = .ok (.iconst 0, 1)) (by decide) ?_
  refine g_istore_n (L' := [some (.ref 28), some (.int (nI o)), some (.int (nI m)), some (.int (nI 0))]) (by decide +kernel : decode prog_8_method_3_code 1 = .ok (.istore_n 3, 1)) (Nat.le_of_ble_eq_true rfl) rfl ?_
  exact c_yus_lp hT.i ho hm 62 0 σ h hT (fun j ej => by omega) (by omega) (by omega) (fun i hi => by omega) hR
set_option maxRecDepth 20000 in
theorem c_shownBehind {σ τ : Store} {f : Row} (h : RX σ τ f) {o m : Nat} (ho : o < nn f) (hm : m < 256) : Ct ΛC mt_Tr_shownBehind 5 [.ref 28, .int (nI o), .int (nI m)] σ (PI (YP τ f f o m)) := by
  refine Ct.of (by decide) (Nat.le_of_ble_eq_true rfl) (fun X hR => ?_)
  show G (ΛC, mt_Tr_shownBehind, 5) X σ [some (.ref 28), some (.int (nI o)), some (.int (nI m))] [] 0
  have hn8 := h.n8
  refine g_aload_n (by decide +kernel : decode prog_8_method_2_code 0 = .ok (.aload_n 0, 1)) rfl ?_
  refine g_getR (by decide +kernel : decode prog_8_method_2_code 1 = .ok (.getfield 18, 3)) fl_Tr_18 rfl rfl ?_
  refine g_aload_n (by decide +kernel : decode prog_8_method_2_code 4 = .ok (.aload_n 0, 1)) rfl ?_
  refine g_getR (by decide +kernel : decode prog_8_method_2_code 5 = .ok (.getfield 12, 3)) fl_Tr_12 rfl rfl ?_
  refine g_callVV [.ref 1] (by decide +kernel : decode prog_8_method_2_code 8 = .ok (.invokevirtual 21, 3)) lk_Tr_21 (c_becTN h) rfl rfl rfl rfl (Nat.le_of_ble_eq_true rfl) (Nat.le_of_ble_eq_true rfl) (fun s8 h8 => ?_)
  obtain ⟨g8, u8⟩ := h8
  refine g_aload_n (by decide +kernel : decode prog_8_method_2_code 11 = .ok (.aload_n 0, 1)) rfl ?_
  refine g_iload_n (by decide +kernel : decode prog_8_method_2_code 12 = .ok (.iload_n 1, 1)) rfl ?_
  refine g_iload_n (by decide +kernel : decode prog_8_method_2_code 13 = .ok (.iload_n 2, 1)) rfl ?_
  refine g_callVI [.int (nI o), .int (nI m)] (by decide +kernel : decode prog_8_method_2_code 14 = .ok (.invokevirtual 25, 3)) lk_Tr_25 (c_yus g8 u8 ho hm) rfl rfl rfl rfl (Nat.le_of_ble_eq_true rfl) (Nat.le_of_ble_eq_true rfl) (fun r14 s14 h14 => ?_)
  exact g_iret hR (by decide +kernel : decode prog_8_method_2_code 17 = .ok (.ireturn, 1)) rfl ⟨_, rfl, h14⟩
set_option maxRecDepth 20000 in
theorem c_all_lp {X : CX} {τ : Store} {f : Row} (hI : Inv f) : ∀ (b9 k : Nat) (σ : Store), RX σ τ f → RP (tV σ) (yN 255 f k) → k ≤ 61 → 61 - k < b9 → (∀ i, i < k → msk (yN 255 f i) (nn (yN 255 f i)) ≠ 0) → Rt (ΛC, mt_Tr_allShownBehind, 4) (PI (fun r σ' => r = nI (alw 61 f) ∧ RX σ' τ f)) X → G (ΛC, mt_Tr_allShownBehind, 4) X σ [some (.ref 28), some (.int (nI k))] [] 13 := by
  intro b9
  induction b9 with
  | zero => intro k σ h hT hk hb hh hR; omega
  | succ b9 ih =>
  intro k σ h hT hk hb hh hR
  have hN := (yN_inv (m := 255) hI k).2
  have hm9 := inv_m256 hT.i
  refine g_iload_n (by decide +kernel : decode prog_8_method_4_code 13 = .ok (.iload_n 1, 1)) rfl ?_
  refine g_bipush (v := nI 60) (by decide +kernel : decode prog_8_method_4_code 14 = .ok (.bipush 60, 2)) (by decide) ?_
  refine g_icmp_gtN (tgt := 47) (by decide +kernel : decode prog_8_method_4_code 16 = .ok (.if_icmp .gt 31, 3)) (by decide) (by omega) (by decide) (fun h16 => ?_) (fun h16 => ?_)
  · refine g_bipush (v := nI 61) (by decide +kernel : decode prog_8_method_4_code 47 = .ok (.bipush 61, 2)) (by decide) ?_
    have e9 : alw 61 f = 61 := alw_stop (k := 61) (fun i hi => hh i (by omega)) (by decide) (Or.inl rfl)
    exact g_iret hR (by decide +kernel : decode prog_8_method_4_code 49 = .ok (.ireturn, 1)) rfl ⟨_, rfl, by rw [e9], h⟩
  · refine g_aload_n (by decide +kernel : decode prog_8_method_4_code 19 = .ok (.aload_n 0, 1)) rfl ?_
    refine g_getR (by decide +kernel : decode prog_8_method_4_code 20 = .ok (.getfield 18, 3)) fl_Tr_18 rfl rfl ?_
    refine g_getI (by decide +kernel : decode prog_8_method_4_code 23 = .ok (.getfield 37, 3)) fl_Tr_37.get rfl rfl ?_
    refine g_top (w := nI (msk (yN 255 f k) (nn (yN 255 f k)))) (hT.m) ?_
    refine g_if_neN (tgt := 31) (by decide +kernel : decode prog_8_method_4_code 26 = .ok (.ifCond .ne 5, 3)) (by decide) (by omega) (fun h26 => ?_) (fun h26 => ?_)
    · refine g_aload_n (by decide +kernel : decode prog_8_method_4_code 31 = .ok (.aload_n 0, 1)) rfl ?_
      refine g_getR (by decide +kernel : decode prog_8_method_4_code 32 = .ok (.getfield 18, 3)) fl_Tr_18 rfl rfl ?_
      refine g_sipush (v := nI 255) (by decide +kernel : decode prog_8_method_4_code 35 = .ok (.sipush 255, 3)) (by decide) ?_
      refine g_callVV [.int (nI 255)] (by decide +kernel : decode prog_8_method_4_code 38 = .ok (.invokevirtual 33, 3)) lk_Tr_33 (t_passYear h hT (m := 255) (by decide)) rfl rfl rfl rfl (Nat.le_of_ble_eq_true rfl) (Nat.le_of_ble_eq_true rfl) (fun s38 h38 => ?_)
      obtain ⟨g38, u38, r38⟩ := h38
      refine g_iincN (n := 1) (L' := [some (.ref 28), some (.int (nI (k + 1)))]) (by decide +kernel : decode prog_8_method_4_code 41 = .ok (.iinc 1 1, 3)) rfl (by decide) (Nat.le_of_ble_eq_true rfl) rfl ?_
      refine g_goto (tgt := 13) (by decide +kernel : decode prog_8_method_4_code 44 = .ok (.goto (-31), 3)) (by decide) ?_
      exact ih (k + 1) _ g38 u38 (by omega) (by omega) (fun i hi => by rcases (show i < k ∨ i = k by omega) with z | rfl; exact hh i z; exact h26) hR
    · refine g_iload_n (by decide +kernel : decode prog_8_method_4_code 29 = .ok (.iload_n 1, 1)) rfl ?_
      have e9 : alw 61 f = k := alw_stop hh hk (Or.inr h26)
      exact g_iret hR (by decide +kernel : decode prog_8_method_4_code 30 = .ok (.ireturn, 1)) rfl ⟨_, rfl, by rw [e9], h⟩
set_option maxRecDepth 20000 in
theorem c_allShownBehind {σ τ : Store} {f : Row} (h : RX σ τ f)  : Ct ΛC mt_Tr_allShownBehind 4 [.ref 28] σ (PI (fun r σ' => r = nI (alw 61 f) ∧ RX σ' τ f)) := by
  refine Ct.of (by decide) (Nat.le_of_ble_eq_true rfl) (fun X hR => ?_)
  show G (ΛC, mt_Tr_allShownBehind, 4) X σ [some (.ref 28), none] [] 0
  have hn8 := h.n8
  refine g_aload_n (by decide +kernel : decode prog_8_method_4_code 0 = .ok (.aload_n 0, 1)) rfl ?_
  refine g_getR (by decide +kernel : decode prog_8_method_4_code 1 = .ok (.getfield 18, 3)) fl_Tr_18 rfl rfl ?_
  refine g_aload_n (by decide +kernel : decode prog_8_method_4_code 4 = .ok (.aload_n 0, 1)) rfl ?_
  refine g_getR (by decide +kernel : decode prog_8_method_4_code 5 = .ok (.getfield 12, 3)) fl_Tr_12 rfl rfl ?_
  refine g_callVV [.ref 1] (by decide +kernel : decode prog_8_method_4_code 8 = .ok (.invokevirtual 21, 3)) lk_Tr_21 (c_becTN h) rfl rfl rfl rfl (Nat.le_of_ble_eq_true rfl) (Nat.le_of_ble_eq_true rfl) (fun s8 h8 => ?_)
  obtain ⟨g8, u8⟩ := h8
  refine g_iconst (v := nI 0) (by decide +kernel : decode prog_8_method_4_code 11 = .ok (.iconst 0, 1)) (by decide) ?_
  refine g_istore_n (L' := [some (.ref 28), some (.int (nI 0))]) (by decide +kernel : decode prog_8_method_4_code 12 = .ok (.istore_n 1, 1)) (Nat.le_of_ble_eq_true rfl) rfl ?_
  exact c_all_lp h.i 62 0 s8 g8 u8 (by omega) (by omega) (fun i hi => by omega) hR
set_option maxRecDepth 20000 in
theorem c_safe_lp {X : CX} {τ : Store} {f : Row} {o : Nat} (ho : o < nn f) : ∀ (b9 k : Nat) (σ : Store), RX σ τ f → k ≤ 12 → 12 - k < b9 → Rt (ΛC, mt_Tr_safestPlace, 5) (cP τ (bl (nI 0, -1) (fun p => shw 255 o 61 (upd (upd f (19 + 6 * o + 4) (nI 1)) (19 + 6 * o + 3) (nI p))) 12).1 f) X → G (ΛC, mt_Tr_safestPlace, 5) X σ [some (.ref 28), some (.int (nI o)), some (.int ((bl (nI 0, -1) (fun p => shw 255 o 61 (upd (upd f (19 + 6 * o + 4) (nI 1)) (19 + 6 * o + 3) (nI p))) k).1)), some (.int ((bl (nI 0, -1) (fun p => shw 255 o 61 (upd (upd f (19 + 6 * o + 4) (nI 1)) (19 + 6 * o + 3) (nI p))) k).2)), some (.int (nI k)), none] [] 7 := by
  intro b9
  induction b9 with
  | zero => intro k σ h hk hb hR; omega
  | succ b9 ih =>
  intro k σ h hk hb hR
  have hn8 := h.n8
  refine g_iload (by decide +kernel : decode prog_8_method_5_code 7 = .ok (.iload 4, 2)) rfl ?_
  refine g_bipush (v := nI 12) (by decide +kernel : decode prog_8_method_5_code 9 = .ok (.bipush 12, 2)) (by decide) ?_
  refine g_icmp_geN (tgt := 73) (by decide +kernel : decode prog_8_method_5_code 11 = .ok (.if_icmp .ge 62, 3)) (by decide) (by omega) (by decide) (fun h11 => ?_) (fun h11 => ?_)
  · refine g_iload_n (by decide +kernel : decode prog_8_method_5_code 73 = .ok (.iload_n 2, 1)) rfl ?_
    obtain rfl : k = 12 := by omega
    exact g_iret hR (by decide +kernel : decode prog_8_method_5_code 74 = .ok (.ireturn, 1)) rfl ⟨_, rfl, rfl, h⟩
  · refine g_aload_n (by decide +kernel : decode prog_8_method_5_code 14 = .ok (.aload_n 0, 1)) rfl ?_
    refine g_getR (by decide +kernel : decode prog_8_method_5_code 15 = .ok (.getfield 18, 3)) fl_Tr_18 rfl rfl ?_
    refine g_aload_n (by decide +kernel : decode prog_8_method_5_code 18 = .ok (.aload_n 0, 1)) rfl ?_
    refine g_getR (by decide +kernel : decode prog_8_method_5_code 19 = .ok (.getfield 12, 3)) fl_Tr_12 rfl rfl ?_
    refine g_callVV [.ref 1] (by decide +kernel : decode prog_8_method_5_code 22 = .ok (.invokevirtual 21, 3)) lk_Tr_21 (c_becTN h) rfl rfl rfl rfl (Nat.le_of_ble_eq_true rfl) (Nat.le_of_ble_eq_true rfl) (fun s22 h22 => ?_)
    obtain ⟨g22, u22⟩ := h22
    refine g_aload_n (by decide +kernel : decode prog_8_method_5_code 25 = .ok (.aload_n 0, 1)) rfl ?_
    refine g_getR (by decide +kernel : decode prog_8_method_5_code 26 = .ok (.getfield 18, 3)) fl_Tr_18 rfl rfl ?_
    refine g_getR (by decide +kernel : decode prog_8_method_5_code 29 = .ok (.getfield 41, 3)) fl_Tr_41 rfl rfl ?_
    refine g_iload_n (by decide +kernel : decode prog_8_method_5_code 32 = .ok (.iload_n 1, 1)) rfl ?_
    refine g_iload (by decide +kernel : decode prog_8_method_5_code 33 = .ok (.iload 4, 2)) rfl ?_
    refine g_iastore (a := o) (by decide +kernel : decode prog_8_method_5_code 35 = .ok (.iastore, 1)) rfl rfl (by omega) (by decide) ?_
    have p36 := g22.t3 u22 (o := o) (v := (nI k)) (Rng.of (show k ≤ mx 3 by show k ≤ 11; omega))
    refine g_aload_n (by decide +kernel : decode prog_8_method_5_code 36 = .ok (.aload_n 0, 1)) rfl ?_
    refine g_getR (by decide +kernel : decode prog_8_method_5_code 37 = .ok (.getfield 18, 3)) fl_Tr_18 rfl rfl ?_
    refine g_iload_n (by decide +kernel : decode prog_8_method_5_code 40 = .ok (.iload_n 1, 1)) rfl ?_
    refine g_iconst (v := nI 1) (by decide +kernel : decode prog_8_method_5_code 41 = .ok (.iconst 1, 1)) (by decide) ?_
    refine g_callVV [.int (nI o), .int (nI 1)] (by decide +kernel : decode prog_8_method_5_code 42 = .ok (.invokevirtual 45, 3)) lk_Tr_45 (t_hide1 p36.1 p36.2 (o := o) (by rw [nn_up (by omega)]; omega)) rfl rfl rfl rfl (Nat.le_of_ble_eq_true rfl) (Nat.le_of_ble_eq_true rfl) (fun s42 h42 => ?_)
    obtain ⟨g42, u42⟩ := h42
    refine g_aload_n (by decide +kernel : decode prog_8_method_5_code 45 = .ok (.aload_n 0, 1)) rfl ?_
    refine g_iload_n (by decide +kernel : decode prog_8_method_5_code 46 = .ok (.iload_n 1, 1)) rfl ?_
    refine g_sipush (v := nI 255) (by decide +kernel : decode prog_8_method_5_code 47 = .ok (.sipush 255, 3)) (by decide) ?_
    have w50 := u42
    rw [upd_cm (show 19 + 6 * o + 3 ≠ 19 + 6 * o + 4 by omega)] at w50
    refine g_callVI [.int (nI o), .int (nI 255)] (by decide +kernel : decode prog_8_method_5_code 50 = .ok (.invokevirtual 25, 3)) lk_Tr_25 (c_yus g42 w50 (o := o) (m := 255) (by rw [nn_up (by omega), nn_up (by omega)]; omega) (by decide)) rfl rfl rfl rfl (Nat.le_of_ble_eq_true rfl) (Nat.le_of_ble_eq_true rfl) (fun r50 s50 h50 => ?_)
    obtain ⟨rfl, g50, _⟩ := h50
    refine g_istore (L' := [some (.ref 28), some (.int (nI o)), some (.int ((bl (nI 0, -1) (fun p => shw 255 o 61 (upd (upd f (19 + 6 * o + 4) (nI 1)) (19 + 6 * o + 3) (nI p))) k).1)), some (.int ((bl (nI 0, -1) (fun p => shw 255 o 61 (upd (upd f (19 + 6 * o + 4) (nI 1)) (19 + 6 * o + 3) (nI p))) k).2)), some (.int (nI k)), some (.int (nI (shw 255 o 61 (upd (upd f (19 + 6 * o + 4) (nI 1)) (19 + 6 * o + 3) (nI k)))))]) (by decide +kernel : decode prog_8_method_5_code 53 = .ok (.istore 5, 2)) (Nat.le_of_ble_eq_true rfl) rfl ?_
    refine g_iload (by decide +kernel : decode prog_8_method_5_code 55 = .ok (.iload 5, 2)) rfl ?_
    refine g_iload_n (by decide +kernel : decode prog_8_method_5_code 57 = .ok (.iload_n 3, 1)) rfl ?_
    refine g_icmp_le (tgt := 67) (by decide +kernel : decode prog_8_method_5_code 58 = .ok (.if_icmp .le 9, 3)) (by decide) (fun h58 => ?_) (fun h58 => ?_)
    · refine g_iincN (n := 1) (L' := [some (.ref 28), some (.int (nI o)), some (.int ((bl (nI 0, -1) (fun p => shw 255 o 61 (upd (upd f (19 + 6 * o + 4) (nI 1)) (19 + 6 * o + 3) (nI p))) k).1)), some (.int ((bl (nI 0, -1) (fun p => shw 255 o 61 (upd (upd f (19 + 6 * o + 4) (nI 1)) (19 + 6 * o + 3) (nI p))) k).2)), some (.int (nI (k + 1))), some (.int (nI (shw 255 o 61 (upd (upd f (19 + 6 * o + 4) (nI 1)) (19 + 6 * o + 3) (nI k)))))]) (by decide +kernel : decode prog_8_method_5_code 67 = .ok (.iinc 4 1, 3)) rfl (by decide) (Nat.le_of_ble_eq_true rfl) rfl ?_
      refine g_goto (tgt := 7) (by decide +kernel : decode prog_8_method_5_code 70 = .ok (.goto (-63), 3)) (by decide) ?_
      have e1 : (bl (nI 0, -1) (fun p => shw 255 o 61 (upd (upd f (19 + 6 * o + 4) (nI 1)) (19 + 6 * o + 3) (nI p))) (k + 1)).1 = (bl (nI 0, -1) (fun p => shw 255 o 61 (upd (upd f (19 + 6 * o + 4) (nI 1)) (19 + 6 * o + 3) (nI p))) k).1 := by rw [bl_1]; exact if_neg (Int32.not_lt.mpr h58)
      have e2 : (bl (nI 0, -1) (fun p => shw 255 o 61 (upd (upd f (19 + 6 * o + 4) (nI 1)) (19 + 6 * o + 3) (nI p))) (k + 1)).2 = (bl (nI 0, -1) (fun p => shw 255 o 61 (upd (upd f (19 + 6 * o + 4) (nI 1)) (19 + 6 * o + 3) (nI p))) k).2 := by rw [bl_2]; exact if_neg (Int32.not_lt.mpr h58)
      refine g_sub (L' := [some (.ref 28), some (.int (nI o)), some (.int ((bl (nI 0, -1) (fun p => shw 255 o 61 (upd (upd f (19 + 6 * o + 4) (nI 1)) (19 + 6 * o + 3) (nI p))) (k + 1)).1)), some (.int ((bl (nI 0, -1) (fun p => shw 255 o 61 (upd (upd f (19 + 6 * o + 4) (nI 1)) (19 + 6 * o + 3) (nI p))) (k + 1)).2)), some (.int (nI (k + 1))), none]) ⟨rfl, rfl, by rw [e1], by rw [e2], rfl, trivial⟩ ?_
      exact ih (k + 1) _ g50 (by omega) (by omega) hR
    · refine g_iload (by decide +kernel : decode prog_8_method_5_code 61 = .ok (.iload 5, 2)) rfl ?_
      refine g_istore_n (L' := [some (.ref 28), some (.int (nI o)), some (.int ((bl (nI 0, -1) (fun p => shw 255 o 61 (upd (upd f (19 + 6 * o + 4) (nI 1)) (19 + 6 * o + 3) (nI p))) k).1)), some (.int (nI (shw 255 o 61 (upd (upd f (19 + 6 * o + 4) (nI 1)) (19 + 6 * o + 3) (nI k))))), some (.int (nI k)), some (.int (nI (shw 255 o 61 (upd (upd f (19 + 6 * o + 4) (nI 1)) (19 + 6 * o + 3) (nI k)))))]) (by decide +kernel : decode prog_8_method_5_code 63 = .ok (.istore_n 3, 1)) (Nat.le_of_ble_eq_true rfl) rfl ?_
      refine g_iload (by decide +kernel : decode prog_8_method_5_code 64 = .ok (.iload 4, 2)) rfl ?_
      refine g_istore_n (L' := [some (.ref 28), some (.int (nI o)), some (.int (nI k)), some (.int (nI (shw 255 o 61 (upd (upd f (19 + 6 * o + 4) (nI 1)) (19 + 6 * o + 3) (nI k))))), some (.int (nI k)), some (.int (nI (shw 255 o 61 (upd (upd f (19 + 6 * o + 4) (nI 1)) (19 + 6 * o + 3) (nI k)))))]) (by decide +kernel : decode prog_8_method_5_code 66 = .ok (.istore_n 2, 1)) (Nat.le_of_ble_eq_true rfl) rfl ?_
      refine g_iincN (n := 1) (L' := [some (.ref 28), some (.int (nI o)), some (.int (nI k)), some (.int (nI (shw 255 o 61 (upd (upd f (19 + 6 * o + 4) (nI 1)) (19 + 6 * o + 3) (nI k))))), some (.int (nI (k + 1))), some (.int (nI (shw 255 o 61 (upd (upd f (19 + 6 * o + 4) (nI 1)) (19 + 6 * o + 3) (nI k)))))]) (by decide +kernel : decode prog_8_method_5_code 67 = .ok (.iinc 4 1, 3)) rfl (by decide) (Nat.le_of_ble_eq_true rfl) rfl ?_
      refine g_goto (tgt := 7) (by decide +kernel : decode prog_8_method_5_code 70 = .ok (.goto (-63), 3)) (by decide) ?_
      have e1 : (bl (nI 0, -1) (fun p => shw 255 o 61 (upd (upd f (19 + 6 * o + 4) (nI 1)) (19 + 6 * o + 3) (nI p))) (k + 1)).1 = nI k := by rw [bl_1]; exact if_pos (Int32.not_le.mp h58)
      have e2 : (bl (nI 0, -1) (fun p => shw 255 o 61 (upd (upd f (19 + 6 * o + 4) (nI 1)) (19 + 6 * o + 3) (nI p))) (k + 1)).2 = nI (shw 255 o 61 (upd (upd f (19 + 6 * o + 4) (nI 1)) (19 + 6 * o + 3) (nI k))) := by rw [bl_2]; exact if_pos (Int32.not_le.mp h58)
      refine g_sub (L' := [some (.ref 28), some (.int (nI o)), some (.int ((bl (nI 0, -1) (fun p => shw 255 o 61 (upd (upd f (19 + 6 * o + 4) (nI 1)) (19 + 6 * o + 3) (nI p))) (k + 1)).1)), some (.int ((bl (nI 0, -1) (fun p => shw 255 o 61 (upd (upd f (19 + 6 * o + 4) (nI 1)) (19 + 6 * o + 3) (nI p))) (k + 1)).2)), some (.int (nI (k + 1))), none]) ⟨rfl, rfl, by rw [e1], by rw [e2], rfl, trivial⟩ ?_
      exact ih (k + 1) _ g50 (by omega) (by omega) hR
set_option maxRecDepth 20000 in
theorem c_safestPlace {σ τ : Store} {f : Row} (h : RX σ τ f) {o : Nat} (ho : o < nn f) : Ct ΛC mt_Tr_safestPlace 5 [.ref 28, .int (nI o)] σ (cP τ (bl (nI 0, -1) (fun p => shw 255 o 61 (upd (upd f (19 + 6 * o + 4) (nI 1)) (19 + 6 * o + 3) (nI p))) 12).1 f) := by
  refine Ct.of (by decide) (Nat.le_of_ble_eq_true rfl) (fun X hR => ?_)
  show G (ΛC, mt_Tr_safestPlace, 5) X σ [some (.ref 28), some (.int (nI o)), none, none, none, none] [] 0
  have hn8 := h.n8
  refine g_iconst (v := nI 0) (by decide +kernel : decode prog_8_method_5_code 0 = .ok (.iconst 0, 1)) (by decide) ?_
  refine g_istore_n (L' := [some (.ref 28), some (.int (nI o)), some (.int (nI 0)), none, none, none]) (by decide +kernel : decode prog_8_method_5_code 1 = .ok (.istore_n 2, 1)) (Nat.le_of_ble_eq_true rfl) rfl ?_
  refine g_iconst (v := (-1)) (by decide +kernel : decode prog_8_method_5_code 2 = .ok (.iconst (-1), 1)) (by decide) ?_
  refine g_istore_n (L' := [some (.ref 28), some (.int (nI o)), some (.int (nI 0)), some (.int (-1)), none, none]) (by decide +kernel : decode prog_8_method_5_code 3 = .ok (.istore_n 3, 1)) (Nat.le_of_ble_eq_true rfl) rfl ?_
  refine g_iconst (v := nI 0) (by decide +kernel : decode prog_8_method_5_code 4 = .ok (.iconst 0, 1)) (by decide) ?_
  refine g_istore (L' := [some (.ref 28), some (.int (nI o)), some (.int (nI 0)), some (.int (-1)), some (.int (nI 0)), none]) (by decide +kernel : decode prog_8_method_5_code 5 = .ok (.istore 4, 2)) (Nat.le_of_ble_eq_true rfl) rfl ?_
  exact c_safe_lp ho 13 0 σ h (by omega) (by omega) hR
set_option maxRecDepth 20000 in
theorem c_kindb_lp {X : CX} {τ : Store} {f : Row} {o : Nat} (ho : o < nn f) : ∀ (b9 k : Nat) (σ : Store), RX σ τ f → k ≤ 6 → 6 - k < b9 → Rt (ΛC, mt_Tr_safestKind, 5) (cP τ (bl (nI 0, -1) (fun p => shw 255 o 61 (upd f (19 + 6 * o + 0) (nI p))) 6).1 f) X → G (ΛC, mt_Tr_safestKind, 5) X σ [some (.ref 28), some (.int (nI o)), some (.int ((bl (nI 0, -1) (fun p => shw 255 o 61 (upd f (19 + 6 * o + 0) (nI p))) k).1)), some (.int ((bl (nI 0, -1) (fun p => shw 255 o 61 (upd f (19 + 6 * o + 0) (nI p))) k).2)), some (.int (nI k)), none] [] 7 := by
  intro b9
  induction b9 with
  | zero => intro k σ h hk hb hR; omega
  | succ b9 ih =>
  intro k σ h hk hb hR
  have hn8 := h.n8
  refine g_iload (by decide +kernel : decode prog_8_method_6_code 7 = .ok (.iload 4, 2)) rfl ?_
  refine g_bipush (v := nI 6) (by decide +kernel : decode prog_8_method_6_code 9 = .ok (.bipush 6, 2)) (by decide) ?_
  refine g_icmp_geN (tgt := 64) (by decide +kernel : decode prog_8_method_6_code 11 = .ok (.if_icmp .ge 53, 3)) (by decide) (by omega) (by decide) (fun h11 => ?_) (fun h11 => ?_)
  · refine g_iload_n (by decide +kernel : decode prog_8_method_6_code 64 = .ok (.iload_n 2, 1)) rfl ?_
    obtain rfl : k = 6 := by omega
    exact g_iret hR (by decide +kernel : decode prog_8_method_6_code 65 = .ok (.ireturn, 1)) rfl ⟨_, rfl, rfl, h⟩
  · refine g_aload_n (by decide +kernel : decode prog_8_method_6_code 14 = .ok (.aload_n 0, 1)) rfl ?_
    refine g_getR (by decide +kernel : decode prog_8_method_6_code 15 = .ok (.getfield 18, 3)) fl_Tr_18 rfl rfl ?_
    refine g_aload_n (by decide +kernel : decode prog_8_method_6_code 18 = .ok (.aload_n 0, 1)) rfl ?_
    refine g_getR (by decide +kernel : decode prog_8_method_6_code 19 = .ok (.getfield 12, 3)) fl_Tr_12 rfl rfl ?_
    refine g_callVV [.ref 1] (by decide +kernel : decode prog_8_method_6_code 22 = .ok (.invokevirtual 21, 3)) lk_Tr_21 (c_becTN h) rfl rfl rfl rfl (Nat.le_of_ble_eq_true rfl) (Nat.le_of_ble_eq_true rfl) (fun s22 h22 => ?_)
    obtain ⟨g22, u22⟩ := h22
    refine g_aload_n (by decide +kernel : decode prog_8_method_6_code 25 = .ok (.aload_n 0, 1)) rfl ?_
    refine g_getR (by decide +kernel : decode prog_8_method_6_code 26 = .ok (.getfield 18, 3)) fl_Tr_18 rfl rfl ?_
    refine g_getR (by decide +kernel : decode prog_8_method_6_code 29 = .ok (.getfield 49, 3)) fl_Tr_49 rfl rfl ?_
    refine g_iload_n (by decide +kernel : decode prog_8_method_6_code 32 = .ok (.iload_n 1, 1)) rfl ?_
    refine g_iload (by decide +kernel : decode prog_8_method_6_code 33 = .ok (.iload 4, 2)) rfl ?_
    refine g_iastore (a := o) (by decide +kernel : decode prog_8_method_6_code 35 = .ok (.iastore, 1)) rfl rfl (by omega) (by decide) ?_
    have p36 := g22.t0 u22 (o := o) (v := (nI k)) (Rng.of (show k ≤ mx 0 by show k ≤ 5; omega))
    refine g_aload_n (by decide +kernel : decode prog_8_method_6_code 36 = .ok (.aload_n 0, 1)) rfl ?_
    refine g_iload_n (by decide +kernel : decode prog_8_method_6_code 37 = .ok (.iload_n 1, 1)) rfl ?_
    refine g_sipush (v := nI 255) (by decide +kernel : decode prog_8_method_6_code 38 = .ok (.sipush 255, 3)) (by decide) ?_
    have w41 := p36.2
    refine g_callVI [.int (nI o), .int (nI 255)] (by decide +kernel : decode prog_8_method_6_code 41 = .ok (.invokevirtual 25, 3)) lk_Tr_25 (c_yus p36.1 w41 (o := o) (m := 255) (by rw [nn_up (by omega)]; omega) (by decide)) rfl rfl rfl rfl (Nat.le_of_ble_eq_true rfl) (Nat.le_of_ble_eq_true rfl) (fun r41 s41 h41 => ?_)
    obtain ⟨rfl, g41, _⟩ := h41
    refine g_istore (L' := [some (.ref 28), some (.int (nI o)), some (.int ((bl (nI 0, -1) (fun p => shw 255 o 61 (upd f (19 + 6 * o + 0) (nI p))) k).1)), some (.int ((bl (nI 0, -1) (fun p => shw 255 o 61 (upd f (19 + 6 * o + 0) (nI p))) k).2)), some (.int (nI k)), some (.int (nI (shw 255 o 61 (upd f (19 + 6 * o + 0) (nI k)))))]) (by decide +kernel : decode prog_8_method_6_code 44 = .ok (.istore 5, 2)) (Nat.le_of_ble_eq_true rfl) rfl ?_
    refine g_iload (by decide +kernel : decode prog_8_method_6_code 46 = .ok (.iload 5, 2)) rfl ?_
    refine g_iload_n (by decide +kernel : decode prog_8_method_6_code 48 = .ok (.iload_n 3, 1)) rfl ?_
    refine g_icmp_le (tgt := 58) (by decide +kernel : decode prog_8_method_6_code 49 = .ok (.if_icmp .le 9, 3)) (by decide) (fun h49 => ?_) (fun h49 => ?_)
    · refine g_iincN (n := 1) (L' := [some (.ref 28), some (.int (nI o)), some (.int ((bl (nI 0, -1) (fun p => shw 255 o 61 (upd f (19 + 6 * o + 0) (nI p))) k).1)), some (.int ((bl (nI 0, -1) (fun p => shw 255 o 61 (upd f (19 + 6 * o + 0) (nI p))) k).2)), some (.int (nI (k + 1))), some (.int (nI (shw 255 o 61 (upd f (19 + 6 * o + 0) (nI k)))))]) (by decide +kernel : decode prog_8_method_6_code 58 = .ok (.iinc 4 1, 3)) rfl (by decide) (Nat.le_of_ble_eq_true rfl) rfl ?_
      refine g_goto (tgt := 7) (by decide +kernel : decode prog_8_method_6_code 61 = .ok (.goto (-54), 3)) (by decide) ?_
      have e1 : (bl (nI 0, -1) (fun p => shw 255 o 61 (upd f (19 + 6 * o + 0) (nI p))) (k + 1)).1 = (bl (nI 0, -1) (fun p => shw 255 o 61 (upd f (19 + 6 * o + 0) (nI p))) k).1 := by rw [bl_1]; exact if_neg (Int32.not_lt.mpr h49)
      have e2 : (bl (nI 0, -1) (fun p => shw 255 o 61 (upd f (19 + 6 * o + 0) (nI p))) (k + 1)).2 = (bl (nI 0, -1) (fun p => shw 255 o 61 (upd f (19 + 6 * o + 0) (nI p))) k).2 := by rw [bl_2]; exact if_neg (Int32.not_lt.mpr h49)
      refine g_sub (L' := [some (.ref 28), some (.int (nI o)), some (.int ((bl (nI 0, -1) (fun p => shw 255 o 61 (upd f (19 + 6 * o + 0) (nI p))) (k + 1)).1)), some (.int ((bl (nI 0, -1) (fun p => shw 255 o 61 (upd f (19 + 6 * o + 0) (nI p))) (k + 1)).2)), some (.int (nI (k + 1))), none]) ⟨rfl, rfl, by rw [e1], by rw [e2], rfl, trivial⟩ ?_
      exact ih (k + 1) _ g41 (by omega) (by omega) hR
    · refine g_iload (by decide +kernel : decode prog_8_method_6_code 52 = .ok (.iload 5, 2)) rfl ?_
      refine g_istore_n (L' := [some (.ref 28), some (.int (nI o)), some (.int ((bl (nI 0, -1) (fun p => shw 255 o 61 (upd f (19 + 6 * o + 0) (nI p))) k).1)), some (.int (nI (shw 255 o 61 (upd f (19 + 6 * o + 0) (nI k))))), some (.int (nI k)), some (.int (nI (shw 255 o 61 (upd f (19 + 6 * o + 0) (nI k)))))]) (by decide +kernel : decode prog_8_method_6_code 54 = .ok (.istore_n 3, 1)) (Nat.le_of_ble_eq_true rfl) rfl ?_
      refine g_iload (by decide +kernel : decode prog_8_method_6_code 55 = .ok (.iload 4, 2)) rfl ?_
      refine g_istore_n (L' := [some (.ref 28), some (.int (nI o)), some (.int (nI k)), some (.int (nI (shw 255 o 61 (upd f (19 + 6 * o + 0) (nI k))))), some (.int (nI k)), some (.int (nI (shw 255 o 61 (upd f (19 + 6 * o + 0) (nI k)))))]) (by decide +kernel : decode prog_8_method_6_code 57 = .ok (.istore_n 2, 1)) (Nat.le_of_ble_eq_true rfl) rfl ?_
      refine g_iincN (n := 1) (L' := [some (.ref 28), some (.int (nI o)), some (.int (nI k)), some (.int (nI (shw 255 o 61 (upd f (19 + 6 * o + 0) (nI k))))), some (.int (nI (k + 1))), some (.int (nI (shw 255 o 61 (upd f (19 + 6 * o + 0) (nI k)))))]) (by decide +kernel : decode prog_8_method_6_code 58 = .ok (.iinc 4 1, 3)) rfl (by decide) (Nat.le_of_ble_eq_true rfl) rfl ?_
      refine g_goto (tgt := 7) (by decide +kernel : decode prog_8_method_6_code 61 = .ok (.goto (-54), 3)) (by decide) ?_
      have e1 : (bl (nI 0, -1) (fun p => shw 255 o 61 (upd f (19 + 6 * o + 0) (nI p))) (k + 1)).1 = nI k := by rw [bl_1]; exact if_pos (Int32.not_le.mp h49)
      have e2 : (bl (nI 0, -1) (fun p => shw 255 o 61 (upd f (19 + 6 * o + 0) (nI p))) (k + 1)).2 = nI (shw 255 o 61 (upd f (19 + 6 * o + 0) (nI k))) := by rw [bl_2]; exact if_pos (Int32.not_le.mp h49)
      refine g_sub (L' := [some (.ref 28), some (.int (nI o)), some (.int ((bl (nI 0, -1) (fun p => shw 255 o 61 (upd f (19 + 6 * o + 0) (nI p))) (k + 1)).1)), some (.int ((bl (nI 0, -1) (fun p => shw 255 o 61 (upd f (19 + 6 * o + 0) (nI p))) (k + 1)).2)), some (.int (nI (k + 1))), none]) ⟨rfl, rfl, by rw [e1], by rw [e2], rfl, trivial⟩ ?_
      exact ih (k + 1) _ g41 (by omega) (by omega) hR
set_option maxRecDepth 20000 in
theorem c_safestKind {σ τ : Store} {f : Row} (h : RX σ τ f) {o : Nat} (ho : o < nn f) : Ct ΛC mt_Tr_safestKind 5 [.ref 28, .int (nI o)] σ (cP τ (bl (nI 0, -1) (fun p => shw 255 o 61 (upd f (19 + 6 * o + 0) (nI p))) 6).1 f) := by
  refine Ct.of (by decide) (Nat.le_of_ble_eq_true rfl) (fun X hR => ?_)
  show G (ΛC, mt_Tr_safestKind, 5) X σ [some (.ref 28), some (.int (nI o)), none, none, none, none] [] 0
  have hn8 := h.n8
  refine g_iconst (v := nI 0) (by decide +kernel : decode prog_8_method_6_code 0 = .ok (.iconst 0, 1)) (by decide) ?_
  refine g_istore_n (L' := [some (.ref 28), some (.int (nI o)), some (.int (nI 0)), none, none, none]) (by decide +kernel : decode prog_8_method_6_code 1 = .ok (.istore_n 2, 1)) (Nat.le_of_ble_eq_true rfl) rfl ?_
  refine g_iconst (v := (-1)) (by decide +kernel : decode prog_8_method_6_code 2 = .ok (.iconst (-1), 1)) (by decide) ?_
  refine g_istore_n (L' := [some (.ref 28), some (.int (nI o)), some (.int (nI 0)), some (.int (-1)), none, none]) (by decide +kernel : decode prog_8_method_6_code 3 = .ok (.istore_n 3, 1)) (Nat.le_of_ble_eq_true rfl) rfl ?_
  refine g_iconst (v := nI 0) (by decide +kernel : decode prog_8_method_6_code 4 = .ok (.iconst 0, 1)) (by decide) ?_
  refine g_istore (L' := [some (.ref 28), some (.int (nI o)), some (.int (nI 0)), some (.int (-1)), some (.int (nI 0)), none]) (by decide +kernel : decode prog_8_method_6_code 5 = .ok (.istore 4, 2)) (Nat.le_of_ble_eq_true rfl) rfl ?_
  exact c_kindb_lp ho 7 0 σ h (by omega) (by omega) hR
set_option maxRecDepth 20000 in
theorem c_lhw_lp {X : CX} {τ : Store} {f : Row} {o n : Nat} (ho : o < nn f) (hn : n < 2 ^ 31) {t : Int32} : ∀ (b9 k : Nat) (σ : Store), RX σ τ f → k ≤ 10 → 10 - k < b9 → wfF f o n (10 - k) k = t → Rt (ΛC, mt_Tr_leastHidingWit, 5) (cP τ t f) X → G (ΛC, mt_Tr_leastHidingWit, 5) X σ [some (.ref 28), some (.int (nI o)), some (.int (nI n)), some (.int (nI k))] [] 2 := by
  intro b9
  induction b9 with
  | zero => intro k σ h hk hb ht hR; omega
  | succ b9 ih =>
  intro k σ h hk hb ht hR
  have hn8 := h.n8
  have hN := fun u => (yN_inv (m := 255) (h.i.up (o := o) (w := 2) (v := nI k) (by decide) u) n).2
  refine g_iload_n (by decide +kernel : decode prog_8_method_7_code 2 = .ok (.iload_n 3, 1)) rfl ?_
  refine g_bipush (v := nI 9) (by decide +kernel : decode prog_8_method_7_code 3 = .ok (.bipush 9, 2)) (by decide) ?_
  refine g_icmp_gtN (tgt := 59) (by decide +kernel : decode prog_8_method_7_code 5 = .ok (.if_icmp .gt 54, 3)) (by decide) (by omega) (by decide) (fun h5 => ?_) (fun h5 => ?_)
  · refine g_bipush (v := (-3)) (by decide +kernel : decode prog_8_method_7_code 59 = .ok (.bipush (-3), 2)) (by decide) ?_
    obtain rfl : k = 10 := by omega
    exact g_iret hR (by decide +kernel : decode prog_8_method_7_code 61 = .ok (.ireturn, 1)) rfl ⟨_, rfl, ht, h⟩
  · refine g_aload_n (by decide +kernel : decode prog_8_method_7_code 8 = .ok (.aload_n 0, 1)) rfl ?_
    refine g_getR (by decide +kernel : decode prog_8_method_7_code 9 = .ok (.getfield 18, 3)) fl_Tr_18 rfl rfl ?_
    refine g_aload_n (by decide +kernel : decode prog_8_method_7_code 12 = .ok (.aload_n 0, 1)) rfl ?_
    refine g_getR (by decide +kernel : decode prog_8_method_7_code 13 = .ok (.getfield 12, 3)) fl_Tr_12 rfl rfl ?_
    refine g_callVV [.ref 1] (by decide +kernel : decode prog_8_method_7_code 16 = .ok (.invokevirtual 21, 3)) lk_Tr_21 (c_becTN h) rfl rfl rfl rfl (Nat.le_of_ble_eq_true rfl) (Nat.le_of_ble_eq_true rfl) (fun s16 h16 => ?_)
    obtain ⟨g16, u16⟩ := h16
    refine g_aload_n (by decide +kernel : decode prog_8_method_7_code 19 = .ok (.aload_n 0, 1)) rfl ?_
    refine g_getR (by decide +kernel : decode prog_8_method_7_code 20 = .ok (.getfield 18, 3)) fl_Tr_18 rfl rfl ?_
    refine g_getR (by decide +kernel : decode prog_8_method_7_code 23 = .ok (.getfield 52, 3)) fl_Tr_52 rfl rfl ?_
    refine g_iload_n (by decide +kernel : decode prog_8_method_7_code 26 = .ok (.iload_n 1, 1)) rfl ?_
    refine g_iload_n (by decide +kernel : decode prog_8_method_7_code 27 = .ok (.iload_n 3, 1)) rfl ?_
    refine g_iastore (a := o) (by decide +kernel : decode prog_8_method_7_code 28 = .ok (.iastore, 1)) rfl rfl (by omega) (by decide) ?_
    have p29 := g16.t2 u16 (o := o) (v := (nI k)) (Rng.of (show k ≤ 9 by omega))
    refine g_aload_n (by decide +kernel : decode prog_8_method_7_code 29 = .ok (.aload_n 0, 1)) rfl ?_
    refine g_getR (by decide +kernel : decode prog_8_method_7_code 30 = .ok (.getfield 18, 3)) fl_Tr_18 rfl rfl ?_
    refine g_iload_n (by decide +kernel : decode prog_8_method_7_code 33 = .ok (.iload_n 2, 1)) rfl ?_
    refine g_sipush (v := nI 255) (by decide +kernel : decode prog_8_method_7_code 34 = .ok (.sipush 255, 3)) (by decide) ?_
    refine g_callVV [.int (nI n), .int (nI 255)] (by decide +kernel : decode prog_8_method_7_code 37 = .ok (.invokevirtual 55, 3)) lk_Tr_55 (t_passYears p29.1 p29.2 (m := 255) (n := n) (by decide) (by omega)) rfl rfl rfl rfl (Nat.le_of_ble_eq_true rfl) (Nat.le_of_ble_eq_true rfl) (fun s37 h37 => ?_)
    obtain ⟨g37, u37⟩ := h37
    refine g_aload_n (by decide +kernel : decode prog_8_method_7_code 40 = .ok (.aload_n 0, 1)) rfl ?_
    refine g_getR (by decide +kernel : decode prog_8_method_7_code 41 = .ok (.getfield 18, 3)) fl_Tr_18 rfl rfl ?_
    refine g_iload_n (by decide +kernel : decode prog_8_method_7_code 44 = .ok (.iload_n 1, 1)) rfl ?_
    refine g_callVI [.int (nI o)] (by decide +kernel : decode prog_8_method_7_code 45 = .ok (.invokevirtual 29, 3)) lk_Tr_29 (t_isHidden u37 (o := o) (by rw [hN (Rng.of (show k ≤ 9 by omega)), nn_up (by omega)]; exact ho)) rfl rfl rfl rfl (Nat.le_of_ble_eq_true rfl) (Nat.le_of_ble_eq_true rfl) (fun r45 s45 h45 => ?_)
    rcases h45 with ⟨e45, ⟨rfl, q45⟩ | ⟨rfl, q45⟩⟩
    · have e45 := e45.symm; subst e45
      refine g_if_eqN (tgt := 53) (by decide +kernel : decode prog_8_method_7_code 48 = .ok (.ifCond .eq 5, 3)) (by decide) (by decide) (fun h => False.elim (by revert h; decide)) (fun _ => ?_)
      refine g_iload_n (by decide +kernel : decode prog_8_method_7_code 51 = .ok (.iload_n 3, 1)) rfl ?_
      exact g_iret hR (by decide +kernel : decode prog_8_method_7_code 52 = .ok (.ireturn, 1)) rfl ⟨_, rfl, (wfF_yes (by omega) q45).symm.trans ht, g37⟩
    · have e45 := e45.symm; subst e45
      refine g_if_eqN (tgt := 53) (by decide +kernel : decode prog_8_method_7_code 48 = .ok (.ifCond .eq 5, 3)) (by decide) (by decide) (fun _ => ?_) (fun h => False.elim (by revert h; decide))
      refine g_iincN (n := 1) (L' := [some (.ref 28), some (.int (nI o)), some (.int (nI n)), some (.int (nI (k + 1)))]) (by decide +kernel : decode prog_8_method_7_code 53 = .ok (.iinc 3 1, 3)) rfl (by decide) (Nat.le_of_ble_eq_true rfl) rfl ?_
      refine g_goto (tgt := 2) (by decide +kernel : decode prog_8_method_7_code 56 = .ok (.goto (-54), 3)) (by decide) ?_
      exact ih (k + 1) _ g37 (by omega) (by omega) ((wfF_no (by omega) q45).symm.trans ht) hR
set_option maxRecDepth 20000 in
theorem c_leastHidingWit {σ τ : Store} {f : Row} (h : RX σ τ f) {o n : Nat} (ho : o < nn f) (hn : n < 2 ^ 31) : Ct ΛC mt_Tr_leastHidingWit 5 [.ref 28, .int (nI o), .int (nI n)] σ (cP τ (wfF f o n 10 0) f) := by
  refine Ct.of (by decide) (Nat.le_of_ble_eq_true rfl) (fun X hR => ?_)
  show G (ΛC, mt_Tr_leastHidingWit, 5) X σ [some (.ref 28), some (.int (nI o)), some (.int (nI n)), none] [] 0
  have hn8 := h.n8
  refine g_iconst (v := nI 0) (by decide +kernel : decode prog_8_method_7_code 0 = .ok (.iconst 0, 1)) (by decide) ?_
  refine g_istore_n (L' := [some (.ref 28), some (.int (nI o)), some (.int (nI n)), some (.int (nI 0))]) (by decide +kernel : decode prog_8_method_7_code 1 = .ok (.istore_n 3, 1)) (Nat.le_of_ble_eq_true rfl) rfl ?_
  exact c_lhw_lp ho hn 11 0 σ h (by omega) (by omega) rfl hR
set_option maxRecDepth 20000 in
theorem c_need_lp {X : CX} {τ : Store} {f : Row} {o : Nat} (ho : o < nn f) : ∀ (b9 k : Nat) (σ : Store), RX σ τ f → k ≤ nn f → nn f - k < b9 → Rt (ΛC, mt_Tr_mostNeeded, 6) (cP τ (bl (-3, nI (shw 255 o 61 f)) (fun q => shw (255 - 2 ^ q) o 61 f) (nn f)).1 f) X → G (ΛC, mt_Tr_mostNeeded, 6) X σ [some (.ref 28), some (.int (nI o)), some (.int ((bl (-3, nI (shw 255 o 61 f)) (fun q => shw (255 - 2 ^ q) o 61 f) k).1)), some (.int ((bl (-3, nI (shw 255 o 61 f)) (fun q => shw (255 - 2 ^ q) o 61 f) k).2)), some (.int (nI k)), none] [] 15 := by
  intro b9
  induction b9 with
  | zero => intro k σ h hk hb hR; omega
  | succ b9 ih =>
  intro k σ h hk hb hR
  have hn8 := h.n8
  refine g_iload (by decide +kernel : decode prog_8_method_8_code 15 = .ok (.iload 4, 2)) rfl ?_
  refine g_aload_n (by decide +kernel : decode prog_8_method_8_code 17 = .ok (.aload_n 0, 1)) rfl ?_
  refine g_getR (by decide +kernel : decode prog_8_method_8_code 18 = .ok (.getfield 12, 3)) fl_Tr_12 rfl rfl ?_
  refine g_getI (by decide +kernel : decode prog_8_method_8_code 21 = .ok (.getfield 62, 3)) fl_Tr_62.get rfl rfl ?_
  refine g_top (w := nI (nn f)) (h.n.n) ?_
  refine g_icmp_geN (tgt := 62) (by decide +kernel : decode prog_8_method_8_code 24 = .ok (.if_icmp .ge 38, 3)) (by decide) (by omega) (by omega) (fun h24 => ?_) (fun h24 => ?_)
  · refine g_iload_n (by decide +kernel : decode prog_8_method_8_code 62 = .ok (.iload_n 2, 1)) rfl ?_
    obtain rfl : k = nn f := by omega
    exact g_iret hR (by decide +kernel : decode prog_8_method_8_code 63 = .ok (.ireturn, 1)) rfl ⟨_, rfl, rfl, h⟩
  · refine g_aload_n (by decide +kernel : decode prog_8_method_8_code 27 = .ok (.aload_n 0, 1)) rfl ?_
    refine g_iload_n (by decide +kernel : decode prog_8_method_8_code 28 = .ok (.iload_n 1, 1)) rfl ?_
    refine g_sipush (v := nI 255) (by decide +kernel : decode prog_8_method_8_code 29 = .ok (.sipush 255, 3)) (by decide) ?_
    refine g_iconst (v := nI 1) (by decide +kernel : decode prog_8_method_8_code 32 = .ok (.iconst 1, 1)) (by decide) ?_
    refine g_iload (by decide +kernel : decode prog_8_method_8_code 33 = .ok (.iload 4, 2)) rfl ?_
    refine g_ishl (by decide +kernel : decode prog_8_method_8_code 35 = .ok (.ishl, 1)) ?_
    refine g_iconst (v := (-1)) (by decide +kernel : decode prog_8_method_8_code 36 = .ok (.iconst (-1), 1)) (by decide) ?_
    refine g_ixor (by decide +kernel : decode prog_8_method_8_code 37 = .ok (.ixor, 1)) ?_
    refine g_iand (by decide +kernel : decode prog_8_method_8_code 38 = .ok (.iand, 1)) ?_
    refine g_top (w := nI (255 - 2 ^ k)) (msk_q ⟨k, by omega⟩) ?_
    refine g_callVI [.int (nI o), .int (nI (255 - 2 ^ k))] (by decide +kernel : decode prog_8_method_8_code 39 = .ok (.invokevirtual 59, 3)) lk_Tr_59 (c_shownBehind h (o := o) (m := 255 - 2 ^ k) ho (Nat.lt_of_le_of_lt (Nat.sub_le _ _) (by decide))) rfl rfl rfl rfl (Nat.le_of_ble_eq_true rfl) (Nat.le_of_ble_eq_true rfl) (fun r39 s39 h39 => ?_)
    obtain ⟨rfl, g39, _⟩ := h39
    refine g_istore (L' := [some (.ref 28), some (.int (nI o)), some (.int ((bl (-3, nI (shw 255 o 61 f)) (fun q => shw (255 - 2 ^ q) o 61 f) k).1)), some (.int ((bl (-3, nI (shw 255 o 61 f)) (fun q => shw (255 - 2 ^ q) o 61 f) k).2)), some (.int (nI k)), some (.int (nI (shw (255 - 2 ^ k) o 61 f)))]) (by decide +kernel : decode prog_8_method_8_code 42 = .ok (.istore 5, 2)) (Nat.le_of_ble_eq_true rfl) rfl ?_
    refine g_iload (by decide +kernel : decode prog_8_method_8_code 44 = .ok (.iload 5, 2)) rfl ?_
    refine g_iload_n (by decide +kernel : decode prog_8_method_8_code 46 = .ok (.iload_n 3, 1)) rfl ?_
    refine g_icmp_le (tgt := 56) (by decide +kernel : decode prog_8_method_8_code 47 = .ok (.if_icmp .le 9, 3)) (by decide) (fun h47 => ?_) (fun h47 => ?_)
    · refine g_iincN (n := 1) (L' := [some (.ref 28), some (.int (nI o)), some (.int ((bl (-3, nI (shw 255 o 61 f)) (fun q => shw (255 - 2 ^ q) o 61 f) k).1)), some (.int ((bl (-3, nI (shw 255 o 61 f)) (fun q => shw (255 - 2 ^ q) o 61 f) k).2)), some (.int (nI (k + 1))), some (.int (nI (shw (255 - 2 ^ k) o 61 f)))]) (by decide +kernel : decode prog_8_method_8_code 56 = .ok (.iinc 4 1, 3)) rfl (by decide) (Nat.le_of_ble_eq_true rfl) rfl ?_
      refine g_goto (tgt := 15) (by decide +kernel : decode prog_8_method_8_code 59 = .ok (.goto (-44), 3)) (by decide) ?_
      have e1 : (bl (-3, nI (shw 255 o 61 f)) (fun q => shw (255 - 2 ^ q) o 61 f) (k + 1)).1 = (bl (-3, nI (shw 255 o 61 f)) (fun q => shw (255 - 2 ^ q) o 61 f) k).1 := by rw [bl_1]; exact if_neg (Int32.not_lt.mpr h47)
      have e2 : (bl (-3, nI (shw 255 o 61 f)) (fun q => shw (255 - 2 ^ q) o 61 f) (k + 1)).2 = (bl (-3, nI (shw 255 o 61 f)) (fun q => shw (255 - 2 ^ q) o 61 f) k).2 := by rw [bl_2]; exact if_neg (Int32.not_lt.mpr h47)
      refine g_sub (L' := [some (.ref 28), some (.int (nI o)), some (.int ((bl (-3, nI (shw 255 o 61 f)) (fun q => shw (255 - 2 ^ q) o 61 f) (k + 1)).1)), some (.int ((bl (-3, nI (shw 255 o 61 f)) (fun q => shw (255 - 2 ^ q) o 61 f) (k + 1)).2)), some (.int (nI (k + 1))), none]) ⟨rfl, rfl, by rw [e1], by rw [e2], rfl, trivial⟩ ?_
      exact ih (k + 1) _ g39 (by omega) (by omega) hR
    · refine g_iload (by decide +kernel : decode prog_8_method_8_code 50 = .ok (.iload 5, 2)) rfl ?_
      refine g_istore_n (L' := [some (.ref 28), some (.int (nI o)), some (.int ((bl (-3, nI (shw 255 o 61 f)) (fun q => shw (255 - 2 ^ q) o 61 f) k).1)), some (.int (nI (shw (255 - 2 ^ k) o 61 f))), some (.int (nI k)), some (.int (nI (shw (255 - 2 ^ k) o 61 f)))]) (by decide +kernel : decode prog_8_method_8_code 52 = .ok (.istore_n 3, 1)) (Nat.le_of_ble_eq_true rfl) rfl ?_
      refine g_iload (by decide +kernel : decode prog_8_method_8_code 53 = .ok (.iload 4, 2)) rfl ?_
      refine g_istore_n (L' := [some (.ref 28), some (.int (nI o)), some (.int (nI k)), some (.int (nI (shw (255 - 2 ^ k) o 61 f))), some (.int (nI k)), some (.int (nI (shw (255 - 2 ^ k) o 61 f)))]) (by decide +kernel : decode prog_8_method_8_code 55 = .ok (.istore_n 2, 1)) (Nat.le_of_ble_eq_true rfl) rfl ?_
      refine g_iincN (n := 1) (L' := [some (.ref 28), some (.int (nI o)), some (.int (nI k)), some (.int (nI (shw (255 - 2 ^ k) o 61 f))), some (.int (nI (k + 1))), some (.int (nI (shw (255 - 2 ^ k) o 61 f)))]) (by decide +kernel : decode prog_8_method_8_code 56 = .ok (.iinc 4 1, 3)) rfl (by decide) (Nat.le_of_ble_eq_true rfl) rfl ?_
      refine g_goto (tgt := 15) (by decide +kernel : decode prog_8_method_8_code 59 = .ok (.goto (-44), 3)) (by decide) ?_
      have e1 : (bl (-3, nI (shw 255 o 61 f)) (fun q => shw (255 - 2 ^ q) o 61 f) (k + 1)).1 = nI k := by rw [bl_1]; exact if_pos (Int32.not_le.mp h47)
      have e2 : (bl (-3, nI (shw 255 o 61 f)) (fun q => shw (255 - 2 ^ q) o 61 f) (k + 1)).2 = nI (shw (255 - 2 ^ k) o 61 f) := by rw [bl_2]; exact if_pos (Int32.not_le.mp h47)
      refine g_sub (L' := [some (.ref 28), some (.int (nI o)), some (.int ((bl (-3, nI (shw 255 o 61 f)) (fun q => shw (255 - 2 ^ q) o 61 f) (k + 1)).1)), some (.int ((bl (-3, nI (shw 255 o 61 f)) (fun q => shw (255 - 2 ^ q) o 61 f) (k + 1)).2)), some (.int (nI (k + 1))), none]) ⟨rfl, rfl, by rw [e1], by rw [e2], rfl, trivial⟩ ?_
      exact ih (k + 1) _ g39 (by omega) (by omega) hR
set_option maxRecDepth 20000 in
theorem c_mostNeeded {σ τ : Store} {f : Row} (h : RX σ τ f) {o : Nat} (ho : o < nn f) : Ct ΛC mt_Tr_mostNeeded 6 [.ref 28, .int (nI o)] σ (cP τ (bl (-3, nI (shw 255 o 61 f)) (fun q => shw (255 - 2 ^ q) o 61 f) (nn f)).1 f) := by
  refine Ct.of (by decide) (Nat.le_of_ble_eq_true rfl) (fun X hR => ?_)
  show G (ΛC, mt_Tr_mostNeeded, 6) X σ [some (.ref 28), some (.int (nI o)), none, none, none, none] [] 0
  have hn8 := h.n8
  refine g_bipush (v := (-3)) (by decide +kernel : decode prog_8_method_8_code 0 = .ok (.bipush (-3), 2)) (by decide) ?_
  refine g_istore_n (L' := [some (.ref 28), some (.int (nI o)), some (.int (-3)), none, none, none]) (by decide +kernel : decode prog_8_method_8_code 2 = .ok (.istore_n 2, 1)) (Nat.le_of_ble_eq_true rfl) rfl ?_
  refine g_aload_n (by decide +kernel : decode prog_8_method_8_code 3 = .ok (.aload_n 0, 1)) rfl ?_
  refine g_iload_n (by decide +kernel : decode prog_8_method_8_code 4 = .ok (.iload_n 1, 1)) rfl ?_
  refine g_sipush (v := nI 255) (by decide +kernel : decode prog_8_method_8_code 5 = .ok (.sipush 255, 3)) (by decide) ?_
  refine g_callVI [.int (nI o), .int (nI 255)] (by decide +kernel : decode prog_8_method_8_code 8 = .ok (.invokevirtual 59, 3)) lk_Tr_59 (c_shownBehind h (o := o) (m := 255) ho (by decide)) rfl rfl rfl rfl (Nat.le_of_ble_eq_true rfl) (Nat.le_of_ble_eq_true rfl) (fun r8 s8 h8 => ?_)
  obtain ⟨rfl, g8, _⟩ := h8
  refine g_istore_n (L' := [some (.ref 28), some (.int (nI o)), some (.int (-3)), some (.int (nI (shw 255 o 61 f))), none, none]) (by decide +kernel : decode prog_8_method_8_code 11 = .ok (.istore_n 3, 1)) (Nat.le_of_ble_eq_true rfl) rfl ?_
  refine g_iconst (v := nI 0) (by decide +kernel : decode prog_8_method_8_code 12 = .ok (.iconst 0, 1)) (by decide) ?_
  refine g_istore (L' := [some (.ref 28), some (.int (nI o)), some (.int (-3)), some (.int (nI (shw 255 o 61 f))), some (.int (nI 0)), none]) (by decide +kernel : decode prog_8_method_8_code 13 = .ok (.istore 4, 2)) (Nat.le_of_ble_eq_true rfl) rfl ?_
  exact c_need_lp ho (nn f + 1) 0 s8 g8 (by omega) (by omega) hR
