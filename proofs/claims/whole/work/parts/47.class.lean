/-! THE PROGRAM: the text of a park -/
abbrev ixP : List Nat := [29, 30]
theorem io_s (i : Nat) : io ixP (1000 + i) = 1000 + i := by
  show ([29, 30] : List Nat).getD (1000 + i) (1000 + i) = _
  rw [List.getD_eq_getElem?_getD, List.getElem?_eq_none (by show 2 ≤ 1000 + i; omega)]; rfl
theorem emPB {μ : Mt} {d : Nat} {as as' : List Value} {σ : Store} {q : Prop} (h : Ct ΛT μ d as (sub ixP σ) (PB (sub ixP σ) q)) (ha : as.map (re ixP) = as') : Ct ΛC μ d as' σ (PB σ q) := by
  refine (Ct.embI ixP h (by decide +kernel) ha).post ?_
  rintro v σ' ⟨r, h1, ρ, ⟨h2, h3⟩, h4⟩
  subst h2
  exact ⟨r, h1, h4.trans (over_id σ ixP), h3⟩
/-- all but the tape and the trial is as it was -/
def Fr (σ0 σ : Store) : Prop := ∀ c, (c < 10 ∨ 18 < c) → c ≠ 29 → c ≠ 30 → σ c = σ0 c
/-- the tape at q, the fault F, the trial's park g but for z -/
def PS (B : Nat → Nat) (t : Nat) (σ0 σ : Store) (q : Nat) (F : Int32) (g : Row) : Prop := Tk B t (sub ixP σ) q F ∧ (∃ z, RP (tV σ) (upd g 2 z)) ∧ Fr σ0 σ
theorem PS.o {B : Nat → Nat} {t : Nat} {σ0 σ ρ : Store} {q q' : Nat} {F F' : Int32} {g : Row} (h : PS B t σ0 σ q F g) (hρ : Tk B t ρ q' F') : PS B t σ0 (over σ ixP ρ) q' F' g := by
  refine ⟨hρ, h.2.1, fun c hc c1 c2 => ?_⟩
  rw [← h.2.2 c hc c1 c2]
  simp [over, pos, Ne.symm c1, Ne.symm c2]
theorem PS.le {B : Nat → Nat} {t : Nat} {σ0 σ : Store} {q : Nat} {F : Int32} {g : Row} (h : PS B t σ0 σ q F g) : q ≤ t ∧ t ≤ 200 := ⟨h.1.2.1, h.1.1.2.2.1⟩
theorem PS.f {B : Nat → Nat} {t : Nat} {σ0 σ : Store} {q : Nat} {F : Int32} {g : Row} (h : PS B t σ0 σ q F g) : σ 29 5 = F := h.1.1.2.1
theorem PS.k {B : Nat → Nat} {t : Nat} {σ0 σ : Store} {q : Nat} {F : Int32} {g : Row} (h : PS B t σ0 σ q F g) : σ 29 2 = nI (kd B t q) := h.1.2.2.1
theorem PS.n {B : Nat → Nat} {t : Nat} {σ0 σ : Store} {q : Nat} {F : Int32} {g : Row} (h : PS B t σ0 σ q F g) : σ 10 8 = nI (nn g) := by
  obtain ⟨z, hz⟩ := h.2.1
  have := hz.n
  rw [nn_up (by decide)] at this
  exact this
theorem PS.n8 {B : Nat → Nat} {t : Nat} {σ0 σ : Store} {q : Nat} {F : Int32} {g : Row} (h : PS B t σ0 σ q F g) : nn g ≤ 8 := by
  obtain ⟨z, hz⟩ := h.2.1
  have := hz.n8
  rw [nn_up (by decide)] at this
  exact this
theorem PS.wl {B : Nat → Nat} {t : Nat} {σ0 σ : Store} {q : Nat} {F : Int32} {g : Row} (h : PS B t σ0 σ q F g) {i : Nat} {v : Int32} (hi : i < 4) (hv : Rng v (lm i)) : PS B t σ0 (s_up σ 11 i v) q F (upd g (3 + i) v) := by
  obtain ⟨z, hz⟩ := h.2.1
  refine ⟨h.1, ⟨z, ?_⟩, fun c hc c1 c2 => ?_⟩
  · have := hz.ul hi hv
    rw [upd_comm (by omega)] at this
    exact this.cg (k8 rfl rfl rfl rfl rfl rfl rfl rfl)
  · rw [s_up_n _ _ _ (by omega)]; exact h.2.2 c hc c1 c2
theorem PS.wc {B : Nat → Nat} {t : Nat} {σ0 σ : Store} {q : Nat} {F : Int32} {g : Row} (h : PS B t σ0 σ q F g) {p : Nat} {v : Int32} (hp : p < 12) (hv : Rng v 9) : PS B t σ0 (s_up σ 12 p v) q F (upd g (7 + p) v) := by
  obtain ⟨z, hz⟩ := h.2.1
  refine ⟨h.1, ⟨z, ?_⟩, fun c hc c1 c2 => ?_⟩
  · have := hz.uc hp hv
    rw [upd_comm (by omega)] at this
    exact this.cg (k8 rfl rfl rfl rfl rfl rfl rfl rfl)
  · rw [s_up_n _ _ _ (by omega)]; exact h.2.2 c hc c1 c2
theorem adm_z {g : Row} {z : Int32} {k a w p h : Nat} : adm (upd g 2 z) k a w p h = upd (adm g k a w p h) 2 z := by
  unfold adm
  rw [nn_up (show 2 ≠ 0 by decide)]
  rw [upd_comm (show 2 ≠ 19 + 6 * nn g + 0 by omega), upd_comm (show 2 ≠ 19 + 6 * nn g + 1 by omega), upd_comm (show 2 ≠ 19 + 6 * nn g + 2 by omega), upd_comm (show 2 ≠ 19 + 6 * nn g + 3 by omega), upd_comm (show 2 ≠ 19 + 6 * nn g + 4 by omega), upd_comm (show 2 ≠ 19 + 6 * nn g + 5 by omega), upd_comm (show 2 ≠ 0 by decide)]
theorem over_T {σ ρ : Store} {c : Nat} (h : c < 10 ∨ 18 < c) : over σ ixT ρ c = σ c := by
  simp [over, pos, show ¬ 10 = c by omega, show ¬ 11 = c by omega, show ¬ 12 = c by omega, show ¬ 13 = c by omega, show ¬ 14 = c by omega, show ¬ 15 = c by omega, show ¬ 16 = c by omega, show ¬ 17 = c by omega, show ¬ 18 = c by omega]
theorem fl_m (q : Nat) : fl (-1) q = nI q := if_pos rfl
theorem fl_n {e : Nat} (he : e < 2 ^ 31) (q : Nat) : fl (nI e) q = nI e := if_neg (fun z => m1_ne he z.symm)
theorem p_adm0 {B : Nat → Nat} {t : Nat} {σ0 σ : Store} {q : Nat} {g : Row} {F : Int32} (h : PS B t σ0 σ q F g) {k a w p : Nat} (hn : nn g < 8) (hk : k ≤ 5) (ha : a ≤ 99) (hw : w ≤ 9) (hp : p ≤ 11) : Ct ΛC mt_Pk_adm 1 [.ref 10, .int (nI k), .int (nI a), .int (nI w), .int (nI p), .int (nI 0)] σ (PV (fun σ' => PS B t σ0 σ' q F (adm g k a w p 1))) := by
  obtain ⟨z, hz⟩ := h.2.1
  refine (emTV (c_adm0 hz (by rw [nn_up (by decide)]; exact hn) hk ha hw hp) rfl).post ?_
  rintro v σ' ⟨e, ρ, h1, rfl⟩
  rw [adm_z] at h1
  exact ⟨e, h.1, ⟨z, tV_T h1⟩, fun c hc c1 c2 => (over_T hc).trans (h.2.2 c hc c1 c2)⟩
theorem p_adm1 {B : Nat → Nat} {t : Nat} {σ0 σ : Store} {q : Nat} {g : Row} {F : Int32} (h : PS B t σ0 σ q F g) {k a w p : Nat} (hn : nn g < 8) (hk : k ≤ 5) (ha : a ≤ 99) (hw : w ≤ 9) (hp : p ≤ 11) : Ct ΛC mt_Pk_adm 1 [.ref 10, .int (nI k), .int (nI a), .int (nI w), .int (nI p), .int (nI 1)] σ (PV (fun σ' => PS B t σ0 σ' q F (adm g k a w p 0))) := by
  obtain ⟨z, hz⟩ := h.2.1
  refine (emTV (c_adm1 hz (by rw [nn_up (by decide)]; exact hn) hk ha hw hp) rfl).post ?_
  rintro v σ' ⟨e, ρ, h1, rfl⟩
  rw [adm_z] at h1
  exact ⟨e, h.1, ⟨z, tV_T h1⟩, fun c hc c1 c2 => (over_T hc).trans (h.2.2 c hc c1 c2)⟩
theorem p_isNext {B : Nat → Nat} {t : Nat} {σ0 σ : Store} {q : Nat} {g : Row} {F : Int32} (h : PS B t σ0 σ q F g) {i : Nat} {W : List Nat} (hi : i < 16) (hW : Wi i = W) : Ct ΛC mt_Tp_isNext 5 [.ref 29, .ref (1000 + i)] σ (PB σ (F = -1 ∧ nm B t q W)) := by
  subst hW
  exact emPB (s_isNext h.1 hi) (by simp only [List.map, re, io_s]; rfl)
theorem p_adv {B : Nat → Nat} {t : Nat} {σ0 σ : Store} {q : Nat} {g : Row} {F : Int32} (h : PS B t σ0 σ q F g)  : Ct ΛC mt_Tp_advance 1 [.ref 29] σ (PV (fun σ' => PS B t σ0 σ' (nx B t q) F g)) := by
  refine (Ct.embV ixP (s_adv h.1) (by decide +kernel) (rfl)).post ?_
  rintro v σ' ⟨e, ρ, h1, rfl⟩
  exact ⟨e, h.o h1⟩
theorem p_fail {B : Nat → Nat} {t : Nat} {σ0 σ : Store} {q : Nat} {g : Row} (h : PS B t σ0 σ q (-1) g)  : Ct ΛC mt_Tp_fail 0 [.ref 29] σ (PV (fun σ' => PS B t σ0 σ' q (nI q) g)) := by
  refine (Ct.embV ixP (s_fail h.1) (by decide +kernel) (rfl)).post ?_
  rintro v σ' ⟨e, ρ, h1, rfl⟩
  rw [fl_m] at h1
  exact ⟨e, h.o h1⟩
theorem p_takeName {B : Nat → Nat} {t : Nat} {σ0 σ : Store} {q : Nat} {g : Row} (h : PS B t σ0 σ q (-1) g) {i : Nat} {W : List Nat} (hi : i < 16) (hW : Wi i = W) : Ct ΛC mt_Tp_takeName 6 [.ref 29, .ref (1000 + i)] σ (PV (fun σ' => (nm B t q W ∧ PS B t σ0 σ' (nx B t q) (-1) g) ∨ (¬ nm B t q W ∧ PS B t σ0 σ' q (nI q) g))) := by
  refine (Ct.embV ixP (s_takeName h.1 hi) (by decide +kernel) (by simp only [List.map, re, io_s]; rfl)).post ?_
  rintro v σ' ⟨e, ρ, h1, rfl⟩
  subst hW
  rcases h1 with ⟨_, h2, h3⟩ | ⟨h2, h3⟩
  · exact ⟨e, Or.inl ⟨h2, h.o h3⟩⟩
  · rw [fl_m] at h3
    exact ⟨e, Or.inr ⟨fun z => h2 ⟨rfl, z⟩, h.o h3⟩⟩
theorem p_takeNameW {B : Nat → Nat} {t : Nat} {σ0 σ : Store} {q : Nat} {g : Row} {e : Nat} (h : PS B t σ0 σ q (nI e) g) (he : e ≤ t) {i : Nat} (hi : i < 16) : Ct ΛC mt_Tp_takeName 6 [.ref 29, .ref (1000 + i)] σ (PV (fun σ' => ∃ q', PS B t σ0 σ' q' (nI e) g)) := by
  refine (Ct.embV ixP (s_takeName h.1 hi) (by decide +kernel) (by simp only [List.map, re, io_s]; rfl)).post ?_
  rintro v σ' ⟨e9, ρ, h1, rfl⟩
  have h200 := h.le
  rcases h1 with ⟨_, h2, h3⟩ | ⟨h2, h3⟩
  · exact ⟨e9, _, h.o h3⟩
  · rw [fl_n (by omega)] at h3
    exact ⟨e9, _, h.o h3⟩
theorem p_takeNumber {B : Nat → Nat} {t : Nat} {σ0 σ : Store} {q : Nat} {g : Row} (h : PS B t σ0 σ q (-1) g) {m : Nat} (hm : m < 2 ^ 31) : Ct ΛC mt_Tp_takeNumber 2 [.ref 29, .int (nI m)] σ (PI (fun r σ' => (isN B t m q ∧ r = nI (vl B t q) ∧ PS B t σ0 σ' (nx B t q) (-1) g) ∨ (¬ isN B t m q ∧ r = nI 0 ∧ PS B t σ0 σ' q (nI q) g))) := by
  refine (Ct.embI ixP (s_takeNumber h.1 hm) (by decide +kernel) (rfl)).post ?_
  rintro v σ' ⟨r, e, ρ, h1, rfl⟩
  rcases h1 with ⟨h1, h2, h3⟩ | ⟨h1, h2, h3⟩
  · exact ⟨r, e, Or.inl ⟨h1, h2, h.o h3⟩⟩
  · rw [fl_m] at h3
    exact ⟨r, e, Or.inr ⟨h1, h2, h.o h3⟩⟩
theorem p_takeNumberW {B : Nat → Nat} {t : Nat} {σ0 σ : Store} {q : Nat} {g : Row} {e : Nat} (h : PS B t σ0 σ q (nI e) g) (he : e ≤ t) {m : Nat} (hm : m < 2 ^ 31) : Ct ΛC mt_Tp_takeNumber 2 [.ref 29, .int (nI m)] σ (PI (fun r σ' => ∃ q', PS B t σ0 σ' q' (nI e) g)) := by
  refine (Ct.embI ixP (s_takeNumber h.1 hm) (by decide +kernel) (rfl)).post ?_
  rintro v σ' ⟨r, e9, ρ, h1, rfl⟩
  have h200 := h.le
  rcases h1 with ⟨h1, h2, h3⟩ | ⟨h1, h2, h3⟩
  · exact ⟨r, e9, _, h.o h3⟩
  · rw [fl_n (by omega)] at h3
    exact ⟨r, e9, _, h.o h3⟩
theorem p_takeIf {B : Nat → Nat} {t : Nat} {σ0 σ : Store} {q : Nat} {g : Row} (h : PS B t σ0 σ q (-1) g) {i : Nat} {W : List Nat} (hi : i < 16) (hW : Wi i = W) {m : Nat} (hm : m < 2 ^ 31) : Ct ΛC mt_Tp_takeNumberIfNamed 6 [.ref 29, .ref (1000 + i), .int (nI m)] σ (PI (fun r σ' => (nm B t q W ∧ isN B t m (nx B t q) ∧ r = nI (vl B t (nx B t q)) ∧ PS B t σ0 σ' (nx B t (nx B t q)) (-1) g) ∨ (nm B t q W ∧ ¬ isN B t m (nx B t q) ∧ r = nI 0 ∧ PS B t σ0 σ' (nx B t q) (nI (nx B t q)) g) ∨ (¬ nm B t q W ∧ r = nI 0 ∧ PS B t σ0 σ' q (-1) g))) := by
  refine (Ct.embI ixP (s_takeIf h.1 hi hm) (by decide +kernel) (by simp only [List.map, re, io_s]; rfl)).post ?_
  rintro v σ' ⟨r, e, ρ, h1, rfl⟩
  subst hW
  rcases h1 with ⟨_, h2, ⟨h3, h4, h5⟩ | ⟨h3, h4, h5⟩⟩ | ⟨h2, h4, h5⟩
  · exact ⟨r, e, Or.inl ⟨h2, h3, h4, h.o h5⟩⟩
  · rw [fl_m] at h5
    exact ⟨r, e, Or.inr (Or.inl ⟨h2, h3, h4, h.o h5⟩)⟩
  · exact ⟨r, e, Or.inr (Or.inr ⟨fun z => h2 ⟨rfl, z⟩, h4, h.o h5⟩)⟩
theorem p_takeIfW {B : Nat → Nat} {t : Nat} {σ0 σ : Store} {q : Nat} {g : Row} {e : Nat} (h : PS B t σ0 σ q (nI e) g) (he : e ≤ t) {i m : Nat} (hi : i < 16) (hm : m < 2 ^ 31) : Ct ΛC mt_Tp_takeNumberIfNamed 6 [.ref 29, .ref (1000 + i), .int (nI m)] σ (PI (fun r σ' => ∃ q', PS B t σ0 σ' q' (nI e) g)) := by
  refine (Ct.embI ixP (s_takeIf h.1 hi hm) (by decide +kernel) (by simp only [List.map, re, io_s]; rfl)).post ?_
  rintro v σ' ⟨r, e9, ρ, h1, rfl⟩
  have h200 := h.le
  rcases h1 with ⟨_, h2, ⟨h3, h4, h5⟩ | ⟨h3, h4, h5⟩⟩ | ⟨h2, h4, h5⟩
  · exact ⟨r, e9, _, h.o h5⟩
  · rw [fl_n (by omega)] at h5
    exact ⟨r, e9, _, h.o h5⟩
  · exact ⟨r, e9, _, h.o h5⟩
theorem p_semi {B : Nat → Nat} {t : Nat} {σ0 σ : Store} {q : Nat} {g : Row} (h : PS B t σ0 σ q (-1) g)  : Ct ΛC mt_Tp_takeSemicolon 2 [.ref 29] σ (PV (fun σ' => (isC B t q ∧ PS B t σ0 σ' (nx B t q) (-1) g) ∨ (¬ isC B t q ∧ PS B t σ0 σ' q (nI q) g))) := by
  refine (Ct.embV ixP (s_takeSemicolon h.1) (by decide +kernel) (rfl)).post ?_
  rintro v σ' ⟨e, ρ, h1, rfl⟩
  rcases h1 with ⟨h2, h3⟩ | ⟨h2, h3⟩
  · exact ⟨e, Or.inl ⟨h2, h.o h3⟩⟩
  · rw [fl_m] at h3
    exact ⟨e, Or.inr ⟨h2, h.o h3⟩⟩
theorem p_semiW {B : Nat → Nat} {t : Nat} {σ0 σ : Store} {q : Nat} {g : Row} {e : Nat} (h : PS B t σ0 σ q (nI e) g) (he : e ≤ t)  : Ct ΛC mt_Tp_takeSemicolon 2 [.ref 29] σ (PV (fun σ' => ∃ q', PS B t σ0 σ' q' (nI e) g)) := by
  refine (Ct.embV ixP (s_takeSemicolon h.1) (by decide +kernel) (rfl)).post ?_
  rintro v σ' ⟨e9, ρ, h1, rfl⟩
  have h200 := h.le
  rcases h1 with ⟨h2, h3⟩ | ⟨h2, h3⟩
  · exact ⟨e9, _, h.o h3⟩
  · rw [fl_n (by omega)] at h3
    exact ⟨e9, _, h.o h3⟩
/-- what a statement of the text leaves -/
def RE (B : Nat → Nat) (t : Nat) (σ0 : Store) (r : PR) (σ' : Store) : Prop := match r with
  | .inl e => e ≤ t ∧ ∃ q g, PS B t σ0 σ' q (nI e) g
  | .inr r => PS B t σ0 σ' r.1 (-1) r.2
set_option maxRecDepth 20000 in
theorem r_person {B : Nat → Nat} {t : Nat} {σ0 σ : Store} {q : Nat} {g : Row} (h : PS B t σ0 σ q (-1) g) {k : Nat} (hk : k ≤ 5) : Ct ΛC mt_Tp_readPerson 7 [.ref 29, .ref 10, .int (nI k)] σ (PV (RE B t σ0 (stK B t (peK B t g k q)))) := by
  refine Ct.of (by decide) (Nat.le_of_ble_eq_true rfl) (fun X hR => ?_)
  show G (ΛC, mt_Tp_readPerson, 7) X σ [some (.ref 29), some (.ref 10), some (.int (nI k)), none, none, none, none] [] 0
  have h8 := h.n8
  have hle := h.le
  refine g_aload_n (by decide +kernel : decode prog_7_method_5_code 0 = .ok (.aload_n 1, 1)) rfl ?_
  refine g_getI (by decide +kernel : decode prog_7_method_5_code 1 = .ok (.getfield 56, 3)) fl_Tp_56.get rfl rfl ?_
  refine g_top (w := nI (nn g)) (h.n) ?_
  refine g_bipush (v := nI 8) (by decide +kernel : decode prog_7_method_5_code 4 = .ok (.bipush 8, 2)) (by decide) ?_
  refine g_icmp_ltN (tgt := 14) (by decide +kernel : decode prog_7_method_5_code 6 = .ok (.if_icmp .lt 8, 3)) (by decide) (by omega) (by decide) (fun h6 => ?_) (fun h6 => ?_)
  · refine g_aload_n (by decide +kernel : decode prog_7_method_5_code 14 = .ok (.aload_n 0, 1)) rfl ?_
    refine g_callVV [] (by decide +kernel : decode prog_7_method_5_code 15 = .ok (.invokevirtual 25, 3)) lk_Tp_25 (p_adv h) rfl rfl rfl rfl (Nat.le_of_ble_eq_true rfl) (Nat.le_of_ble_eq_true rfl) (fun s15 h15 => ?_)
    have S15 := h15
    refine g_aload_n (by decide +kernel : decode prog_7_method_5_code 18 = .ok (.aload_n 0, 1)) rfl ?_
    refine g_ldcS (i := 0) (by decide +kernel : decode prog_7_method_5_code 19 = .ok (.ldc 64, 2)) rfl (by decide) rfl ?_
    refine g_callVV [.ref (1000 + 0)] (by decide +kernel : decode prog_7_method_5_code 21 = .ok (.invokevirtual 66, 3)) lk_Tp_66 (p_takeName S15 (i := 0) (W := W_at) (by decide) rfl) rfl rfl rfl rfl (Nat.le_of_ble_eq_true rfl) (Nat.le_of_ble_eq_true rfl) (fun s21 h21 => ?_)
    rcases h21 with ⟨q21, S21⟩ | ⟨q21, S21⟩
    · skip
      refine g_aload_n (by decide +kernel : decode prog_7_method_5_code 24 = .ok (.aload_n 0, 1)) rfl ?_
      refine g_bipush (v := nI 11) (by decide +kernel : decode prog_7_method_5_code 25 = .ok (.bipush 11, 2)) (by decide) ?_
      refine g_callVI [.int (nI 11)] (by decide +kernel : decode prog_7_method_5_code 27 = .ok (.invokevirtual 70, 3)) lk_Tp_70 (p_takeNumber S21 (m := 11) (by decide)) rfl rfl rfl rfl (Nat.le_of_ble_eq_true rfl) (Nat.le_of_ble_eq_true rfl) (fun r27 s27 h27 => ?_)
      rcases h27 with ⟨q27, rfl, S27⟩ | ⟨q27, rfl, S27⟩
      · have v27 := q27.2.2
        refine g_istore_n (L' := [some (.ref 29), some (.ref 10), some (.int (nI k)), some (.int (nI (vl B t (nx B t (nx B t q))))), none, none, none]) (by decide +kernel : decode prog_7_method_5_code 30 = .ok (.istore_n 3, 1)) (Nat.le_of_ble_eq_true rfl) rfl ?_
        refine g_aload_n (by decide +kernel : decode prog_7_method_5_code 31 = .ok (.aload_n 0, 1)) rfl ?_
        refine g_ldcS (i := 1) (by decide +kernel : decode prog_7_method_5_code 32 = .ok (.ldc 74, 2)) rfl (by decide) rfl ?_
        refine g_bipush (v := nI 99) (by decide +kernel : decode prog_7_method_5_code 34 = .ok (.bipush 99, 2)) (by decide) ?_
        refine g_callVI [.ref (1000 + 1), .int (nI 99)] (by decide +kernel : decode prog_7_method_5_code 36 = .ok (.invokevirtual 76, 3)) lk_Tp_76 (p_takeIf S27 (i := 1) (W := W_age) (by decide) rfl (m := 99) (by decide)) rfl rfl rfl rfl (Nat.le_of_ble_eq_true rfl) (Nat.le_of_ble_eq_true rfl) (fun r36 s36 h36 => ?_)
        rcases h36 with ⟨q36, u36, rfl, S36⟩ | ⟨q36, u36, rfl, S36⟩ | ⟨q36, rfl, S36⟩
        · have v36 := u36.2.2
          refine g_istore (L' := [some (.ref 29), some (.ref 10), some (.int (nI k)), some (.int (nI (vl B t (nx B t (nx B t q))))), some (.int (nI (vl B t (nx B t (nx B t (nx B t (nx B t q))))))), none, none]) (by decide +kernel : decode prog_7_method_5_code 39 = .ok (.istore 4, 2)) (Nat.le_of_ble_eq_true rfl) rfl ?_
          refine g_aload_n (by decide +kernel : decode prog_7_method_5_code 41 = .ok (.aload_n 0, 1)) rfl ?_
          refine g_ldcS (i := 2) (by decide +kernel : decode prog_7_method_5_code 42 = .ok (.ldc 80, 2)) rfl (by decide) rfl ?_
          refine g_bipush (v := nI 9) (by decide +kernel : decode prog_7_method_5_code 44 = .ok (.bipush 9, 2)) (by decide) ?_
          refine g_callVI [.ref (1000 + 2), .int (nI 9)] (by decide +kernel : decode prog_7_method_5_code 46 = .ok (.invokevirtual 76, 3)) lk_Tp_76 (p_takeIf S36 (i := 2) (W := W_wit) (by decide) rfl (m := 9) (by decide)) rfl rfl rfl rfl (Nat.le_of_ble_eq_true rfl) (Nat.le_of_ble_eq_true rfl) (fun r46 s46 h46 => ?_)
          rcases h46 with ⟨q46, u46, rfl, S46⟩ | ⟨q46, u46, rfl, S46⟩ | ⟨q46, rfl, S46⟩
          · have v46 := u46.2.2
            refine g_istore (L' := [some (.ref 29), some (.ref 10), some (.int (nI k)), some (.int (nI (vl B t (nx B t (nx B t q))))), some (.int (nI (vl B t (nx B t (nx B t (nx B t (nx B t q))))))), some (.int (nI (vl B t (nx B t (nx B t (nx B t (nx B t (nx B t (nx B t q))))))))), none]) (by decide +kernel : decode prog_7_method_5_code 49 = .ok (.istore 5, 2)) (Nat.le_of_ble_eq_true rfl) rfl ?_
            refine g_aload_n (by decide +kernel : decode prog_7_method_5_code 51 = .ok (.aload_n 0, 1)) rfl ?_
            refine g_ldcS (i := 3) (by decide +kernel : decode prog_7_method_5_code 52 = .ok (.ldc 82, 2)) rfl (by decide) rfl ?_
            refine g_callVI [.ref (1000 + 3)] (by decide +kernel : decode prog_7_method_5_code 54 = .ok (.invokevirtual 39, 3)) lk_Tp_39 (p_isNext S46 (i := 3) (W := W_seeks) (by decide) rfl) rfl rfl rfl rfl (Nat.le_of_ble_eq_true rfl) (Nat.le_of_ble_eq_true rfl) (fun r54 s54 h54 => ?_)
            rcases h54 with ⟨e54, ⟨rfl, _, q54⟩ | ⟨rfl, q54⟩⟩
            · have e54 := e54.symm; subst e54
              refine g_istore (L' := [some (.ref 29), some (.ref 10), some (.int (nI k)), some (.int (nI (vl B t (nx B t (nx B t q))))), some (.int (nI (vl B t (nx B t (nx B t (nx B t (nx B t q))))))), some (.int (nI (vl B t (nx B t (nx B t (nx B t (nx B t (nx B t (nx B t q))))))))), some (.int (nI 1))]) (by decide +kernel : decode prog_7_method_5_code 57 = .ok (.istore 6, 2)) (Nat.le_of_ble_eq_true rfl) rfl ?_
              refine g_iload (by decide +kernel : decode prog_7_method_5_code 59 = .ok (.iload 6, 2)) rfl ?_
              refine g_if_eqN (tgt := 68) (by decide +kernel : decode prog_7_method_5_code 61 = .ok (.ifCond .eq 7, 3)) (by decide) (by decide) (fun h => False.elim (by revert h; decide)) (fun _ => ?_)
              refine g_aload_n (by decide +kernel : decode prog_7_method_5_code 64 = .ok (.aload_n 0, 1)) rfl ?_
              refine g_callVV [] (by decide +kernel : decode prog_7_method_5_code 65 = .ok (.invokevirtual 25, 3)) lk_Tp_25 (p_adv S46) rfl rfl rfl rfl (Nat.le_of_ble_eq_true rfl) (Nat.le_of_ble_eq_true rfl) (fun s65 h65 => ?_)
              have S65 := h65
              refine g_aload_n (by decide +kernel : decode prog_7_method_5_code 68 = .ok (.aload_n 0, 1)) rfl ?_
              refine g_callVV [] (by decide +kernel : decode prog_7_method_5_code 69 = .ok (.invokevirtual 84, 3)) lk_Tp_84 (p_semi S65) rfl rfl rfl rfl (Nat.le_of_ble_eq_true rfl) (Nat.le_of_ble_eq_true rfl) (fun s69 h69 => ?_)
              rcases h69 with ⟨q69, S69⟩ | ⟨q69, S69⟩
              · skip
                refine g_aload_n (by decide +kernel : decode prog_7_method_5_code 72 = .ok (.aload_n 0, 1)) rfl ?_
                refine g_getI (by decide +kernel : decode prog_7_method_5_code 73 = .ok (.getfield 19, 3)) fl_Tp_19.get rfl rfl ?_
                refine g_top (w := (-1)) (S69.f) ?_
                refine g_iconst (v := (-1)) (by decide +kernel : decode prog_7_method_5_code 76 = .ok (.iconst (-1), 1)) (by decide) ?_
                refine g_icmp_ne (tgt := 92) (by decide +kernel : decode prog_7_method_5_code 77 = .ok (.if_icmp .ne 15, 3)) (by decide) (fun h => False.elim (by revert h; decide)) (fun _ => ?_)
                refine g_aload_n (by decide +kernel : decode prog_7_method_5_code 80 = .ok (.aload_n 1, 1)) rfl ?_
                refine g_iload_n (by decide +kernel : decode prog_7_method_5_code 81 = .ok (.iload_n 2, 1)) rfl ?_
                refine g_iload (by decide +kernel : decode prog_7_method_5_code 82 = .ok (.iload 4, 2)) rfl ?_
                refine g_iload (by decide +kernel : decode prog_7_method_5_code 84 = .ok (.iload 5, 2)) rfl ?_
                refine g_iload_n (by decide +kernel : decode prog_7_method_5_code 86 = .ok (.iload_n 3, 1)) rfl ?_
                refine g_iload (by decide +kernel : decode prog_7_method_5_code 87 = .ok (.iload 6, 2)) rfl ?_
                refine g_callVV [.int (nI k), .int (nI (vl B t (nx B t (nx B t (nx B t (nx B t q)))))), .int (nI (vl B t (nx B t (nx B t (nx B t (nx B t (nx B t (nx B t q)))))))), .int (nI (vl B t (nx B t (nx B t q)))), .int (nI 1)] (by decide +kernel : decode prog_7_method_5_code 89 = .ok (.invokevirtual 87, 3)) lk_Tp_87 (p_adm1 S69 (k := k) (a := vl B t (nx B t (nx B t (nx B t (nx B t q))))) (w := vl B t (nx B t (nx B t (nx B t (nx B t (nx B t (nx B t q))))))) (p := vl B t (nx B t (nx B t q))) (by omega) hk (by first | exact Nat.zero_le _ | omega) (by first | exact Nat.zero_le _ | omega) (by first | exact Nat.zero_le _ | omega)) rfl rfl rfl rfl (Nat.le_of_ble_eq_true rfl) (Nat.le_of_ble_eq_true rfl) (fun s89 h89 => ?_)
                have S89 := h89
                have eR : stK B t (peK B t g k q) = .inr (nx B t (nx B t (nx B t (nx B t (nx B t (nx B t (nx B t (nx B t (nx B t q)))))))), adm g k (vl B t (nx B t (nx B t (nx B t (nx B t q))))) (vl B t (nx B t (nx B t (nx B t (nx B t (nx B t (nx B t q))))))) (vl B t (nx B t (nx B t q))) 0) := by simp only [peK, atK, agK, wtK, seK, stK, if_pos h6, if_pos q21, if_pos q27, if_pos q36, if_pos u36, if_pos q46, if_pos u46, if_pos q54, if_pos q69]
                exact g_vret hR (by decide +kernel : decode prog_7_method_5_code 92 = .ok (.return_, 1)) rfl ⟨rfl, by rw [eR]; exact S89⟩
              · have le := S69.le
                refine g_aload_n (by decide +kernel : decode prog_7_method_5_code 72 = .ok (.aload_n 0, 1)) rfl ?_
                refine g_getI (by decide +kernel : decode prog_7_method_5_code 73 = .ok (.getfield 19, 3)) fl_Tp_19.get rfl rfl ?_
                refine g_top (w := nI (nx B t (nx B t (nx B t (nx B t (nx B t (nx B t (nx B t (nx B t q))))))))) (S69.f) ?_
                refine g_iconst (v := (-1)) (by decide +kernel : decode prog_7_method_5_code 76 = .ok (.iconst (-1), 1)) (by decide) ?_
                refine g_icmp_ne (tgt := 92) (by decide +kernel : decode prog_7_method_5_code 77 = .ok (.if_icmp .ne 15, 3)) (by decide) (fun _ => ?_) (fun q => absurd q.symm (m1_ne (by omega)))
                have eR : stK B t (peK B t g k q) = .inl (nx B t (nx B t (nx B t (nx B t (nx B t (nx B t (nx B t (nx B t q)))))))) := by simp only [peK, atK, agK, wtK, seK, stK, if_pos h6, if_pos q21, if_pos q27, if_pos q36, if_pos u36, if_pos q46, if_pos u46, if_pos q54, if_neg q69]
                exact g_vret hR (by decide +kernel : decode prog_7_method_5_code 92 = .ok (.return_, 1)) rfl ⟨rfl, by rw [eR]; exact ⟨le.1, _, _, S69⟩⟩
            · have e54 := e54.symm; subst e54
              replace q54 := fun z => q54 ⟨rfl, z⟩
              refine g_istore (L' := [some (.ref 29), some (.ref 10), some (.int (nI k)), some (.int (nI (vl B t (nx B t (nx B t q))))), some (.int (nI (vl B t (nx B t (nx B t (nx B t (nx B t q))))))), some (.int (nI (vl B t (nx B t (nx B t (nx B t (nx B t (nx B t (nx B t q))))))))), some (.int (nI 0))]) (by decide +kernel : decode prog_7_method_5_code 57 = .ok (.istore 6, 2)) (Nat.le_of_ble_eq_true rfl) rfl ?_
              refine g_iload (by decide +kernel : decode prog_7_method_5_code 59 = .ok (.iload 6, 2)) rfl ?_
              refine g_if_eqN (tgt := 68) (by decide +kernel : decode prog_7_method_5_code 61 = .ok (.ifCond .eq 7, 3)) (by decide) (by decide) (fun _ => ?_) (fun h => False.elim (by revert h; decide))
              refine g_aload_n (by decide +kernel : decode prog_7_method_5_code 68 = .ok (.aload_n 0, 1)) rfl ?_
              refine g_callVV [] (by decide +kernel : decode prog_7_method_5_code 69 = .ok (.invokevirtual 84, 3)) lk_Tp_84 (p_semi S46) rfl rfl rfl rfl (Nat.le_of_ble_eq_true rfl) (Nat.le_of_ble_eq_true rfl) (fun s69 h69 => ?_)
              rcases h69 with ⟨q69, S69⟩ | ⟨q69, S69⟩
              · skip
                refine g_aload_n (by decide +kernel : decode prog_7_method_5_code 72 = .ok (.aload_n 0, 1)) rfl ?_
                refine g_getI (by decide +kernel : decode prog_7_method_5_code 73 = .ok (.getfield 19, 3)) fl_Tp_19.get rfl rfl ?_
                refine g_top (w := (-1)) (S69.f) ?_
                refine g_iconst (v := (-1)) (by decide +kernel : decode prog_7_method_5_code 76 = .ok (.iconst (-1), 1)) (by decide) ?_
                refine g_icmp_ne (tgt := 92) (by decide +kernel : decode prog_7_method_5_code 77 = .ok (.if_icmp .ne 15, 3)) (by decide) (fun h => False.elim (by revert h; decide)) (fun _ => ?_)
                refine g_aload_n (by decide +kernel : decode prog_7_method_5_code 80 = .ok (.aload_n 1, 1)) rfl ?_
                refine g_iload_n (by decide +kernel : decode prog_7_method_5_code 81 = .ok (.iload_n 2, 1)) rfl ?_
                refine g_iload (by decide +kernel : decode prog_7_method_5_code 82 = .ok (.iload 4, 2)) rfl ?_
                refine g_iload (by decide +kernel : decode prog_7_method_5_code 84 = .ok (.iload 5, 2)) rfl ?_
                refine g_iload_n (by decide +kernel : decode prog_7_method_5_code 86 = .ok (.iload_n 3, 1)) rfl ?_
                refine g_iload (by decide +kernel : decode prog_7_method_5_code 87 = .ok (.iload 6, 2)) rfl ?_
                refine g_callVV [.int (nI k), .int (nI (vl B t (nx B t (nx B t (nx B t (nx B t q)))))), .int (nI (vl B t (nx B t (nx B t (nx B t (nx B t (nx B t (nx B t q)))))))), .int (nI (vl B t (nx B t (nx B t q)))), .int (nI 0)] (by decide +kernel : decode prog_7_method_5_code 89 = .ok (.invokevirtual 87, 3)) lk_Tp_87 (p_adm0 S69 (k := k) (a := vl B t (nx B t (nx B t (nx B t (nx B t q))))) (w := vl B t (nx B t (nx B t (nx B t (nx B t (nx B t (nx B t q))))))) (p := vl B t (nx B t (nx B t q))) (by omega) hk (by first | exact Nat.zero_le _ | omega) (by first | exact Nat.zero_le _ | omega) (by first | exact Nat.zero_le _ | omega)) rfl rfl rfl rfl (Nat.le_of_ble_eq_true rfl) (Nat.le_of_ble_eq_true rfl) (fun s89 h89 => ?_)
                have S89 := h89
                have eR : stK B t (peK B t g k q) = .inr (nx B t (nx B t (nx B t (nx B t (nx B t (nx B t (nx B t (nx B t q))))))), adm g k (vl B t (nx B t (nx B t (nx B t (nx B t q))))) (vl B t (nx B t (nx B t (nx B t (nx B t (nx B t (nx B t q))))))) (vl B t (nx B t (nx B t q))) 1) := by simp only [peK, atK, agK, wtK, seK, stK, if_pos h6, if_pos q21, if_pos q27, if_pos q36, if_pos u36, if_pos q46, if_pos u46, if_neg q54, if_pos q69]
                exact g_vret hR (by decide +kernel : decode prog_7_method_5_code 92 = .ok (.return_, 1)) rfl ⟨rfl, by rw [eR]; exact S89⟩
              · have le := S69.le
                refine g_aload_n (by decide +kernel : decode prog_7_method_5_code 72 = .ok (.aload_n 0, 1)) rfl ?_
                refine g_getI (by decide +kernel : decode prog_7_method_5_code 73 = .ok (.getfield 19, 3)) fl_Tp_19.get rfl rfl ?_
                refine g_top (w := nI (nx B t (nx B t (nx B t (nx B t (nx B t (nx B t (nx B t q)))))))) (S69.f) ?_
                refine g_iconst (v := (-1)) (by decide +kernel : decode prog_7_method_5_code 76 = .ok (.iconst (-1), 1)) (by decide) ?_
                refine g_icmp_ne (tgt := 92) (by decide +kernel : decode prog_7_method_5_code 77 = .ok (.if_icmp .ne 15, 3)) (by decide) (fun _ => ?_) (fun q => absurd q.symm (m1_ne (by omega)))
                have eR : stK B t (peK B t g k q) = .inl (nx B t (nx B t (nx B t (nx B t (nx B t (nx B t (nx B t q))))))) := by simp only [peK, atK, agK, wtK, seK, stK, if_pos h6, if_pos q21, if_pos q27, if_pos q36, if_pos u36, if_pos q46, if_pos u46, if_neg q54, if_neg q69]
                exact g_vret hR (by decide +kernel : decode prog_7_method_5_code 92 = .ok (.return_, 1)) rfl ⟨rfl, by rw [eR]; exact ⟨le.1, _, _, S69⟩⟩
          · have le := S46.le
            refine g_istore (L' := [some (.ref 29), some (.ref 10), some (.int (nI k)), some (.int (nI (vl B t (nx B t (nx B t q))))), some (.int (nI (vl B t (nx B t (nx B t (nx B t (nx B t q))))))), some (.int (nI 0)), none]) (by decide +kernel : decode prog_7_method_5_code 49 = .ok (.istore 5, 2)) (Nat.le_of_ble_eq_true rfl) rfl ?_
            refine g_aload_n (by decide +kernel : decode prog_7_method_5_code 51 = .ok (.aload_n 0, 1)) rfl ?_
            refine g_ldcS (i := 3) (by decide +kernel : decode prog_7_method_5_code 52 = .ok (.ldc 82, 2)) rfl (by decide) rfl ?_
            refine g_callVI [.ref (1000 + 3)] (by decide +kernel : decode prog_7_method_5_code 54 = .ok (.invokevirtual 39, 3)) lk_Tp_39 (p_isNext S46 (i := 3) (W := W_seeks) (by decide) rfl) rfl rfl rfl rfl (Nat.le_of_ble_eq_true rfl) (Nat.le_of_ble_eq_true rfl) (fun r54 s54 h54 => ?_)
            obtain ⟨e54, h54⟩ := h54
            have e54 := e54.symm; subst e54
            have w54 : r54 = nI 0 := by rcases h54 with ⟨z, q⟩ | ⟨z, _⟩; exact absurd q.1.symm (m1_ne (by omega)); exact z
            subst w54
            refine g_istore (L' := [some (.ref 29), some (.ref 10), some (.int (nI k)), some (.int (nI (vl B t (nx B t (nx B t q))))), some (.int (nI (vl B t (nx B t (nx B t (nx B t (nx B t q))))))), some (.int (nI 0)), some (.int (nI 0))]) (by decide +kernel : decode prog_7_method_5_code 57 = .ok (.istore 6, 2)) (Nat.le_of_ble_eq_true rfl) rfl ?_
            refine g_iload (by decide +kernel : decode prog_7_method_5_code 59 = .ok (.iload 6, 2)) rfl ?_
            refine g_if_eqN (tgt := 68) (by decide +kernel : decode prog_7_method_5_code 61 = .ok (.ifCond .eq 7, 3)) (by decide) (by decide) (fun _ => ?_) (fun h => False.elim (by revert h; decide))
            refine g_aload_n (by decide +kernel : decode prog_7_method_5_code 68 = .ok (.aload_n 0, 1)) rfl ?_
            refine g_callVV [] (by decide +kernel : decode prog_7_method_5_code 69 = .ok (.invokevirtual 84, 3)) lk_Tp_84 (p_semiW S46 le.1) rfl rfl rfl rfl (Nat.le_of_ble_eq_true rfl) (Nat.le_of_ble_eq_true rfl) (fun s69 h69 => ?_)
            obtain ⟨q69, S69⟩ := h69
            refine g_aload_n (by decide +kernel : decode prog_7_method_5_code 72 = .ok (.aload_n 0, 1)) rfl ?_
            refine g_getI (by decide +kernel : decode prog_7_method_5_code 73 = .ok (.getfield 19, 3)) fl_Tp_19.get rfl rfl ?_
            refine g_top (w := nI (nx B t (nx B t (nx B t (nx B t (nx B t (nx B t q))))))) (S69.f) ?_
            refine g_iconst (v := (-1)) (by decide +kernel : decode prog_7_method_5_code 76 = .ok (.iconst (-1), 1)) (by decide) ?_
            refine g_icmp_ne (tgt := 92) (by decide +kernel : decode prog_7_method_5_code 77 = .ok (.if_icmp .ne 15, 3)) (by decide) (fun _ => ?_) (fun q => absurd q.symm (m1_ne (by omega)))
            have eR : stK B t (peK B t g k q) = .inl (nx B t (nx B t (nx B t (nx B t (nx B t (nx B t q)))))) := by simp only [peK, atK, agK, wtK, seK, stK, if_pos h6, if_pos q21, if_pos q27, if_pos q36, if_pos u36, if_pos q46, if_neg u46]
            exact g_vret hR (by decide +kernel : decode prog_7_method_5_code 92 = .ok (.return_, 1)) rfl ⟨rfl, by rw [eR]; exact ⟨le.1, _, _, S69⟩⟩
          · skip
            refine g_istore (L' := [some (.ref 29), some (.ref 10), some (.int (nI k)), some (.int (nI (vl B t (nx B t (nx B t q))))), some (.int (nI (vl B t (nx B t (nx B t (nx B t (nx B t q))))))), some (.int (nI 0)), none]) (by decide +kernel : decode prog_7_method_5_code 49 = .ok (.istore 5, 2)) (Nat.le_of_ble_eq_true rfl) rfl ?_
            refine g_aload_n (by decide +kernel : decode prog_7_method_5_code 51 = .ok (.aload_n 0, 1)) rfl ?_
            refine g_ldcS (i := 3) (by decide +kernel : decode prog_7_method_5_code 52 = .ok (.ldc 82, 2)) rfl (by decide) rfl ?_
            refine g_callVI [.ref (1000 + 3)] (by decide +kernel : decode prog_7_method_5_code 54 = .ok (.invokevirtual 39, 3)) lk_Tp_39 (p_isNext S46 (i := 3) (W := W_seeks) (by decide) rfl) rfl rfl rfl rfl (Nat.le_of_ble_eq_true rfl) (Nat.le_of_ble_eq_true rfl) (fun r54 s54 h54 => ?_)
            rcases h54 with ⟨e54, ⟨rfl, _, q54⟩ | ⟨rfl, q54⟩⟩
            · have e54 := e54.symm; subst e54
              refine g_istore (L' := [some (.ref 29), some (.ref 10), some (.int (nI k)), some (.int (nI (vl B t (nx B t (nx B t q))))), some (.int (nI (vl B t (nx B t (nx B t (nx B t (nx B t q))))))), some (.int (nI 0)), some (.int (nI 1))]) (by decide +kernel : decode prog_7_method_5_code 57 = .ok (.istore 6, 2)) (Nat.le_of_ble_eq_true rfl) rfl ?_
              refine g_iload (by decide +kernel : decode prog_7_method_5_code 59 = .ok (.iload 6, 2)) rfl ?_
              refine g_if_eqN (tgt := 68) (by decide +kernel : decode prog_7_method_5_code 61 = .ok (.ifCond .eq 7, 3)) (by decide) (by decide) (fun h => False.elim (by revert h; decide)) (fun _ => ?_)
              refine g_aload_n (by decide +kernel : decode prog_7_method_5_code 64 = .ok (.aload_n 0, 1)) rfl ?_
              refine g_callVV [] (by decide +kernel : decode prog_7_method_5_code 65 = .ok (.invokevirtual 25, 3)) lk_Tp_25 (p_adv S46) rfl rfl rfl rfl (Nat.le_of_ble_eq_true rfl) (Nat.le_of_ble_eq_true rfl) (fun s65 h65 => ?_)
              have S65 := h65
              refine g_aload_n (by decide +kernel : decode prog_7_method_5_code 68 = .ok (.aload_n 0, 1)) rfl ?_
              refine g_callVV [] (by decide +kernel : decode prog_7_method_5_code 69 = .ok (.invokevirtual 84, 3)) lk_Tp_84 (p_semi S65) rfl rfl rfl rfl (Nat.le_of_ble_eq_true rfl) (Nat.le_of_ble_eq_true rfl) (fun s69 h69 => ?_)
              rcases h69 with ⟨q69, S69⟩ | ⟨q69, S69⟩
              · skip
                refine g_aload_n (by decide +kernel : decode prog_7_method_5_code 72 = .ok (.aload_n 0, 1)) rfl ?_
                refine g_getI (by decide +kernel : decode prog_7_method_5_code 73 = .ok (.getfield 19, 3)) fl_Tp_19.get rfl rfl ?_
                refine g_top (w := (-1)) (S69.f) ?_
                refine g_iconst (v := (-1)) (by decide +kernel : decode prog_7_method_5_code 76 = .ok (.iconst (-1), 1)) (by decide) ?_
                refine g_icmp_ne (tgt := 92) (by decide +kernel : decode prog_7_method_5_code 77 = .ok (.if_icmp .ne 15, 3)) (by decide) (fun h => False.elim (by revert h; decide)) (fun _ => ?_)
                refine g_aload_n (by decide +kernel : decode prog_7_method_5_code 80 = .ok (.aload_n 1, 1)) rfl ?_
                refine g_iload_n (by decide +kernel : decode prog_7_method_5_code 81 = .ok (.iload_n 2, 1)) rfl ?_
                refine g_iload (by decide +kernel : decode prog_7_method_5_code 82 = .ok (.iload 4, 2)) rfl ?_
                refine g_iload (by decide +kernel : decode prog_7_method_5_code 84 = .ok (.iload 5, 2)) rfl ?_
                refine g_iload_n (by decide +kernel : decode prog_7_method_5_code 86 = .ok (.iload_n 3, 1)) rfl ?_
                refine g_iload (by decide +kernel : decode prog_7_method_5_code 87 = .ok (.iload 6, 2)) rfl ?_
                refine g_callVV [.int (nI k), .int (nI (vl B t (nx B t (nx B t (nx B t (nx B t q)))))), .int (nI 0), .int (nI (vl B t (nx B t (nx B t q)))), .int (nI 1)] (by decide +kernel : decode prog_7_method_5_code 89 = .ok (.invokevirtual 87, 3)) lk_Tp_87 (p_adm1 S69 (k := k) (a := vl B t (nx B t (nx B t (nx B t (nx B t q))))) (w := 0) (p := vl B t (nx B t (nx B t q))) (by omega) hk (by first | exact Nat.zero_le _ | omega) (by first | exact Nat.zero_le _ | omega) (by first | exact Nat.zero_le _ | omega)) rfl rfl rfl rfl (Nat.le_of_ble_eq_true rfl) (Nat.le_of_ble_eq_true rfl) (fun s89 h89 => ?_)
                have S89 := h89
                have eR : stK B t (peK B t g k q) = .inr (nx B t (nx B t (nx B t (nx B t (nx B t (nx B t (nx B t q)))))), adm g k (vl B t (nx B t (nx B t (nx B t (nx B t q))))) 0 (vl B t (nx B t (nx B t q))) 0) := by simp only [peK, atK, agK, wtK, seK, stK, if_pos h6, if_pos q21, if_pos q27, if_pos q36, if_pos u36, if_neg q46, if_pos q54, if_pos q69]
                exact g_vret hR (by decide +kernel : decode prog_7_method_5_code 92 = .ok (.return_, 1)) rfl ⟨rfl, by rw [eR]; exact S89⟩
              · have le := S69.le
                refine g_aload_n (by decide +kernel : decode prog_7_method_5_code 72 = .ok (.aload_n 0, 1)) rfl ?_
                refine g_getI (by decide +kernel : decode prog_7_method_5_code 73 = .ok (.getfield 19, 3)) fl_Tp_19.get rfl rfl ?_
                refine g_top (w := nI (nx B t (nx B t (nx B t (nx B t (nx B t (nx B t q))))))) (S69.f) ?_
                refine g_iconst (v := (-1)) (by decide +kernel : decode prog_7_method_5_code 76 = .ok (.iconst (-1), 1)) (by decide) ?_
                refine g_icmp_ne (tgt := 92) (by decide +kernel : decode prog_7_method_5_code 77 = .ok (.if_icmp .ne 15, 3)) (by decide) (fun _ => ?_) (fun q => absurd q.symm (m1_ne (by omega)))
                have eR : stK B t (peK B t g k q) = .inl (nx B t (nx B t (nx B t (nx B t (nx B t (nx B t q)))))) := by simp only [peK, atK, agK, wtK, seK, stK, if_pos h6, if_pos q21, if_pos q27, if_pos q36, if_pos u36, if_neg q46, if_pos q54, if_neg q69]
                exact g_vret hR (by decide +kernel : decode prog_7_method_5_code 92 = .ok (.return_, 1)) rfl ⟨rfl, by rw [eR]; exact ⟨le.1, _, _, S69⟩⟩
            · have e54 := e54.symm; subst e54
              replace q54 := fun z => q54 ⟨rfl, z⟩
              refine g_istore (L' := [some (.ref 29), some (.ref 10), some (.int (nI k)), some (.int (nI (vl B t (nx B t (nx B t q))))), some (.int (nI (vl B t (nx B t (nx B t (nx B t (nx B t q))))))), some (.int (nI 0)), some (.int (nI 0))]) (by decide +kernel : decode prog_7_method_5_code 57 = .ok (.istore 6, 2)) (Nat.le_of_ble_eq_true rfl) rfl ?_
              refine g_iload (by decide +kernel : decode prog_7_method_5_code 59 = .ok (.iload 6, 2)) rfl ?_
              refine g_if_eqN (tgt := 68) (by decide +kernel : decode prog_7_method_5_code 61 = .ok (.ifCond .eq 7, 3)) (by decide) (by decide) (fun _ => ?_) (fun h => False.elim (by revert h; decide))
              refine g_aload_n (by decide +kernel : decode prog_7_method_5_code 68 = .ok (.aload_n 0, 1)) rfl ?_
              refine g_callVV [] (by decide +kernel : decode prog_7_method_5_code 69 = .ok (.invokevirtual 84, 3)) lk_Tp_84 (p_semi S46) rfl rfl rfl rfl (Nat.le_of_ble_eq_true rfl) (Nat.le_of_ble_eq_true rfl) (fun s69 h69 => ?_)
              rcases h69 with ⟨q69, S69⟩ | ⟨q69, S69⟩
              · skip
                refine g_aload_n (by decide +kernel : decode prog_7_method_5_code 72 = .ok (.aload_n 0, 1)) rfl ?_
                refine g_getI (by decide +kernel : decode prog_7_method_5_code 73 = .ok (.getfield 19, 3)) fl_Tp_19.get rfl rfl ?_
                refine g_top (w := (-1)) (S69.f) ?_
                refine g_iconst (v := (-1)) (by decide +kernel : decode prog_7_method_5_code 76 = .ok (.iconst (-1), 1)) (by decide) ?_
                refine g_icmp_ne (tgt := 92) (by decide +kernel : decode prog_7_method_5_code 77 = .ok (.if_icmp .ne 15, 3)) (by decide) (fun h => False.elim (by revert h; decide)) (fun _ => ?_)
                refine g_aload_n (by decide +kernel : decode prog_7_method_5_code 80 = .ok (.aload_n 1, 1)) rfl ?_
                refine g_iload_n (by decide +kernel : decode prog_7_method_5_code 81 = .ok (.iload_n 2, 1)) rfl ?_
                refine g_iload (by decide +kernel : decode prog_7_method_5_code 82 = .ok (.iload 4, 2)) rfl ?_
                refine g_iload (by decide +kernel : decode prog_7_method_5_code 84 = .ok (.iload 5, 2)) rfl ?_
                refine g_iload_n (by decide +kernel : decode prog_7_method_5_code 86 = .ok (.iload_n 3, 1)) rfl ?_
                refine g_iload (by decide +kernel : decode prog_7_method_5_code 87 = .ok (.iload 6, 2)) rfl ?_
                refine g_callVV [.int (nI k), .int (nI (vl B t (nx B t (nx B t (nx B t (nx B t q)))))), .int (nI 0), .int (nI (vl B t (nx B t (nx B t q)))), .int (nI 0)] (by decide +kernel : decode prog_7_method_5_code 89 = .ok (.invokevirtual 87, 3)) lk_Tp_87 (p_adm0 S69 (k := k) (a := vl B t (nx B t (nx B t (nx B t (nx B t q))))) (w := 0) (p := vl B t (nx B t (nx B t q))) (by omega) hk (by first | exact Nat.zero_le _ | omega) (by first | exact Nat.zero_le _ | omega) (by first | exact Nat.zero_le _ | omega)) rfl rfl rfl rfl (Nat.le_of_ble_eq_true rfl) (Nat.le_of_ble_eq_true rfl) (fun s89 h89 => ?_)
                have S89 := h89
                have eR : stK B t (peK B t g k q) = .inr (nx B t (nx B t (nx B t (nx B t (nx B t (nx B t q))))), adm g k (vl B t (nx B t (nx B t (nx B t (nx B t q))))) 0 (vl B t (nx B t (nx B t q))) 1) := by simp only [peK, atK, agK, wtK, seK, stK, if_pos h6, if_pos q21, if_pos q27, if_pos q36, if_pos u36, if_neg q46, if_neg q54, if_pos q69]
                exact g_vret hR (by decide +kernel : decode prog_7_method_5_code 92 = .ok (.return_, 1)) rfl ⟨rfl, by rw [eR]; exact S89⟩
              · have le := S69.le
                refine g_aload_n (by decide +kernel : decode prog_7_method_5_code 72 = .ok (.aload_n 0, 1)) rfl ?_
                refine g_getI (by decide +kernel : decode prog_7_method_5_code 73 = .ok (.getfield 19, 3)) fl_Tp_19.get rfl rfl ?_
                refine g_top (w := nI (nx B t (nx B t (nx B t (nx B t (nx B t q)))))) (S69.f) ?_
                refine g_iconst (v := (-1)) (by decide +kernel : decode prog_7_method_5_code 76 = .ok (.iconst (-1), 1)) (by decide) ?_
                refine g_icmp_ne (tgt := 92) (by decide +kernel : decode prog_7_method_5_code 77 = .ok (.if_icmp .ne 15, 3)) (by decide) (fun _ => ?_) (fun q => absurd q.symm (m1_ne (by omega)))
                have eR : stK B t (peK B t g k q) = .inl (nx B t (nx B t (nx B t (nx B t (nx B t q))))) := by simp only [peK, atK, agK, wtK, seK, stK, if_pos h6, if_pos q21, if_pos q27, if_pos q36, if_pos u36, if_neg q46, if_neg q54, if_neg q69]
                exact g_vret hR (by decide +kernel : decode prog_7_method_5_code 92 = .ok (.return_, 1)) rfl ⟨rfl, by rw [eR]; exact ⟨le.1, _, _, S69⟩⟩
        · have le := S36.le
          refine g_istore (L' := [some (.ref 29), some (.ref 10), some (.int (nI k)), some (.int (nI (vl B t (nx B t (nx B t q))))), some (.int (nI 0)), none, none]) (by decide +kernel : decode prog_7_method_5_code 39 = .ok (.istore 4, 2)) (Nat.le_of_ble_eq_true rfl) rfl ?_
          refine g_aload_n (by decide +kernel : decode prog_7_method_5_code 41 = .ok (.aload_n 0, 1)) rfl ?_
          refine g_ldcS (i := 2) (by decide +kernel : decode prog_7_method_5_code 42 = .ok (.ldc 80, 2)) rfl (by decide) rfl ?_
          refine g_bipush (v := nI 9) (by decide +kernel : decode prog_7_method_5_code 44 = .ok (.bipush 9, 2)) (by decide) ?_
          refine g_callVI [.ref (1000 + 2), .int (nI 9)] (by decide +kernel : decode prog_7_method_5_code 46 = .ok (.invokevirtual 76, 3)) lk_Tp_76 (p_takeIfW S36 le.1 (i := 2) (m := 9) (by decide) (by decide)) rfl rfl rfl rfl (Nat.le_of_ble_eq_true rfl) (Nat.le_of_ble_eq_true rfl) (fun r46 s46 h46 => ?_)
          obtain ⟨q46, S46⟩ := h46
          refine g_istore (L' := [some (.ref 29), some (.ref 10), some (.int (nI k)), some (.int (nI (vl B t (nx B t (nx B t q))))), some (.int (nI 0)), some (.int r46), none]) (by decide +kernel : decode prog_7_method_5_code 49 = .ok (.istore 5, 2)) (Nat.le_of_ble_eq_true rfl) rfl ?_
          refine g_aload_n (by decide +kernel : decode prog_7_method_5_code 51 = .ok (.aload_n 0, 1)) rfl ?_
          refine g_ldcS (i := 3) (by decide +kernel : decode prog_7_method_5_code 52 = .ok (.ldc 82, 2)) rfl (by decide) rfl ?_
          refine g_callVI [.ref (1000 + 3)] (by decide +kernel : decode prog_7_method_5_code 54 = .ok (.invokevirtual 39, 3)) lk_Tp_39 (p_isNext S46 (i := 3) (W := W_seeks) (by decide) rfl) rfl rfl rfl rfl (Nat.le_of_ble_eq_true rfl) (Nat.le_of_ble_eq_true rfl) (fun r54 s54 h54 => ?_)
          obtain ⟨e54, h54⟩ := h54
          have e54 := e54.symm; subst e54
          have w54 : r54 = nI 0 := by rcases h54 with ⟨z, q⟩ | ⟨z, _⟩; exact absurd q.1.symm (m1_ne (by omega)); exact z
          subst w54
          refine g_istore (L' := [some (.ref 29), some (.ref 10), some (.int (nI k)), some (.int (nI (vl B t (nx B t (nx B t q))))), some (.int (nI 0)), some (.int r46), some (.int (nI 0))]) (by decide +kernel : decode prog_7_method_5_code 57 = .ok (.istore 6, 2)) (Nat.le_of_ble_eq_true rfl) rfl ?_
          refine g_iload (by decide +kernel : decode prog_7_method_5_code 59 = .ok (.iload 6, 2)) rfl ?_
          refine g_if_eqN (tgt := 68) (by decide +kernel : decode prog_7_method_5_code 61 = .ok (.ifCond .eq 7, 3)) (by decide) (by decide) (fun _ => ?_) (fun h => False.elim (by revert h; decide))
          refine g_aload_n (by decide +kernel : decode prog_7_method_5_code 68 = .ok (.aload_n 0, 1)) rfl ?_
          refine g_callVV [] (by decide +kernel : decode prog_7_method_5_code 69 = .ok (.invokevirtual 84, 3)) lk_Tp_84 (p_semiW S46 le.1) rfl rfl rfl rfl (Nat.le_of_ble_eq_true rfl) (Nat.le_of_ble_eq_true rfl) (fun s69 h69 => ?_)
          obtain ⟨q69, S69⟩ := h69
          refine g_aload_n (by decide +kernel : decode prog_7_method_5_code 72 = .ok (.aload_n 0, 1)) rfl ?_
          refine g_getI (by decide +kernel : decode prog_7_method_5_code 73 = .ok (.getfield 19, 3)) fl_Tp_19.get rfl rfl ?_
          refine g_top (w := nI (nx B t (nx B t (nx B t (nx B t q))))) (S69.f) ?_
          refine g_iconst (v := (-1)) (by decide +kernel : decode prog_7_method_5_code 76 = .ok (.iconst (-1), 1)) (by decide) ?_
          refine g_icmp_ne (tgt := 92) (by decide +kernel : decode prog_7_method_5_code 77 = .ok (.if_icmp .ne 15, 3)) (by decide) (fun _ => ?_) (fun q => absurd q.symm (m1_ne (by omega)))
          have eR : stK B t (peK B t g k q) = .inl (nx B t (nx B t (nx B t (nx B t q)))) := by simp only [peK, atK, agK, wtK, seK, stK, if_pos h6, if_pos q21, if_pos q27, if_pos q36, if_neg u36]
          exact g_vret hR (by decide +kernel : decode prog_7_method_5_code 92 = .ok (.return_, 1)) rfl ⟨rfl, by rw [eR]; exact ⟨le.1, _, _, S69⟩⟩
        · skip
          refine g_istore (L' := [some (.ref 29), some (.ref 10), some (.int (nI k)), some (.int (nI (vl B t (nx B t (nx B t q))))), some (.int (nI 0)), none, none]) (by decide +kernel : decode prog_7_method_5_code 39 = .ok (.istore 4, 2)) (Nat.le_of_ble_eq_true rfl) rfl ?_
          refine g_aload_n (by decide +kernel : decode prog_7_method_5_code 41 = .ok (.aload_n 0, 1)) rfl ?_
          refine g_ldcS (i := 2) (by decide +kernel : decode prog_7_method_5_code 42 = .ok (.ldc 80, 2)) rfl (by decide) rfl ?_
          refine g_bipush (v := nI 9) (by decide +kernel : decode prog_7_method_5_code 44 = .ok (.bipush 9, 2)) (by decide) ?_
          refine g_callVI [.ref (1000 + 2), .int (nI 9)] (by decide +kernel : decode prog_7_method_5_code 46 = .ok (.invokevirtual 76, 3)) lk_Tp_76 (p_takeIf S36 (i := 2) (W := W_wit) (by decide) rfl (m := 9) (by decide)) rfl rfl rfl rfl (Nat.le_of_ble_eq_true rfl) (Nat.le_of_ble_eq_true rfl) (fun r46 s46 h46 => ?_)
          rcases h46 with ⟨q46, u46, rfl, S46⟩ | ⟨q46, u46, rfl, S46⟩ | ⟨q46, rfl, S46⟩
          · have v46 := u46.2.2
            refine g_istore (L' := [some (.ref 29), some (.ref 10), some (.int (nI k)), some (.int (nI (vl B t (nx B t (nx B t q))))), some (.int (nI 0)), some (.int (nI (vl B t (nx B t (nx B t (nx B t (nx B t q))))))), none]) (by decide +kernel : decode prog_7_method_5_code 49 = .ok (.istore 5, 2)) (Nat.le_of_ble_eq_true rfl) rfl ?_
            refine g_aload_n (by decide +kernel : decode prog_7_method_5_code 51 = .ok (.aload_n 0, 1)) rfl ?_
            refine g_ldcS (i := 3) (by decide +kernel : decode prog_7_method_5_code 52 = .ok (.ldc 82, 2)) rfl (by decide) rfl ?_
            refine g_callVI [.ref (1000 + 3)] (by decide +kernel : decode prog_7_method_5_code 54 = .ok (.invokevirtual 39, 3)) lk_Tp_39 (p_isNext S46 (i := 3) (W := W_seeks) (by decide) rfl) rfl rfl rfl rfl (Nat.le_of_ble_eq_true rfl) (Nat.le_of_ble_eq_true rfl) (fun r54 s54 h54 => ?_)
            rcases h54 with ⟨e54, ⟨rfl, _, q54⟩ | ⟨rfl, q54⟩⟩
            · have e54 := e54.symm; subst e54
              refine g_istore (L' := [some (.ref 29), some (.ref 10), some (.int (nI k)), some (.int (nI (vl B t (nx B t (nx B t q))))), some (.int (nI 0)), some (.int (nI (vl B t (nx B t (nx B t (nx B t (nx B t q))))))), some (.int (nI 1))]) (by decide +kernel : decode prog_7_method_5_code 57 = .ok (.istore 6, 2)) (Nat.le_of_ble_eq_true rfl) rfl ?_
              refine g_iload (by decide +kernel : decode prog_7_method_5_code 59 = .ok (.iload 6, 2)) rfl ?_
              refine g_if_eqN (tgt := 68) (by decide +kernel : decode prog_7_method_5_code 61 = .ok (.ifCond .eq 7, 3)) (by decide) (by decide) (fun h => False.elim (by revert h; decide)) (fun _ => ?_)
              refine g_aload_n (by decide +kernel : decode prog_7_method_5_code 64 = .ok (.aload_n 0, 1)) rfl ?_
              refine g_callVV [] (by decide +kernel : decode prog_7_method_5_code 65 = .ok (.invokevirtual 25, 3)) lk_Tp_25 (p_adv S46) rfl rfl rfl rfl (Nat.le_of_ble_eq_true rfl) (Nat.le_of_ble_eq_true rfl) (fun s65 h65 => ?_)
              have S65 := h65
              refine g_aload_n (by decide +kernel : decode prog_7_method_5_code 68 = .ok (.aload_n 0, 1)) rfl ?_
              refine g_callVV [] (by decide +kernel : decode prog_7_method_5_code 69 = .ok (.invokevirtual 84, 3)) lk_Tp_84 (p_semi S65) rfl rfl rfl rfl (Nat.le_of_ble_eq_true rfl) (Nat.le_of_ble_eq_true rfl) (fun s69 h69 => ?_)
              rcases h69 with ⟨q69, S69⟩ | ⟨q69, S69⟩
              · skip
                refine g_aload_n (by decide +kernel : decode prog_7_method_5_code 72 = .ok (.aload_n 0, 1)) rfl ?_
                refine g_getI (by decide +kernel : decode prog_7_method_5_code 73 = .ok (.getfield 19, 3)) fl_Tp_19.get rfl rfl ?_
                refine g_top (w := (-1)) (S69.f) ?_
                refine g_iconst (v := (-1)) (by decide +kernel : decode prog_7_method_5_code 76 = .ok (.iconst (-1), 1)) (by decide) ?_
                refine g_icmp_ne (tgt := 92) (by decide +kernel : decode prog_7_method_5_code 77 = .ok (.if_icmp .ne 15, 3)) (by decide) (fun h => False.elim (by revert h; decide)) (fun _ => ?_)
                refine g_aload_n (by decide +kernel : decode prog_7_method_5_code 80 = .ok (.aload_n 1, 1)) rfl ?_
                refine g_iload_n (by decide +kernel : decode prog_7_method_5_code 81 = .ok (.iload_n 2, 1)) rfl ?_
                refine g_iload (by decide +kernel : decode prog_7_method_5_code 82 = .ok (.iload 4, 2)) rfl ?_
                refine g_iload (by decide +kernel : decode prog_7_method_5_code 84 = .ok (.iload 5, 2)) rfl ?_
                refine g_iload_n (by decide +kernel : decode prog_7_method_5_code 86 = .ok (.iload_n 3, 1)) rfl ?_
                refine g_iload (by decide +kernel : decode prog_7_method_5_code 87 = .ok (.iload 6, 2)) rfl ?_
                refine g_callVV [.int (nI k), .int (nI 0), .int (nI (vl B t (nx B t (nx B t (nx B t (nx B t q)))))), .int (nI (vl B t (nx B t (nx B t q)))), .int (nI 1)] (by decide +kernel : decode prog_7_method_5_code 89 = .ok (.invokevirtual 87, 3)) lk_Tp_87 (p_adm1 S69 (k := k) (a := 0) (w := vl B t (nx B t (nx B t (nx B t (nx B t q))))) (p := vl B t (nx B t (nx B t q))) (by omega) hk (by first | exact Nat.zero_le _ | omega) (by first | exact Nat.zero_le _ | omega) (by first | exact Nat.zero_le _ | omega)) rfl rfl rfl rfl (Nat.le_of_ble_eq_true rfl) (Nat.le_of_ble_eq_true rfl) (fun s89 h89 => ?_)
                have S89 := h89
                have eR : stK B t (peK B t g k q) = .inr (nx B t (nx B t (nx B t (nx B t (nx B t (nx B t (nx B t q)))))), adm g k 0 (vl B t (nx B t (nx B t (nx B t (nx B t q))))) (vl B t (nx B t (nx B t q))) 0) := by simp only [peK, atK, agK, wtK, seK, stK, if_pos h6, if_pos q21, if_pos q27, if_neg q36, if_pos q46, if_pos u46, if_pos q54, if_pos q69]
                exact g_vret hR (by decide +kernel : decode prog_7_method_5_code 92 = .ok (.return_, 1)) rfl ⟨rfl, by rw [eR]; exact S89⟩
              · have le := S69.le
                refine g_aload_n (by decide +kernel : decode prog_7_method_5_code 72 = .ok (.aload_n 0, 1)) rfl ?_
                refine g_getI (by decide +kernel : decode prog_7_method_5_code 73 = .ok (.getfield 19, 3)) fl_Tp_19.get rfl rfl ?_
                refine g_top (w := nI (nx B t (nx B t (nx B t (nx B t (nx B t (nx B t q))))))) (S69.f) ?_
                refine g_iconst (v := (-1)) (by decide +kernel : decode prog_7_method_5_code 76 = .ok (.iconst (-1), 1)) (by decide) ?_
                refine g_icmp_ne (tgt := 92) (by decide +kernel : decode prog_7_method_5_code 77 = .ok (.if_icmp .ne 15, 3)) (by decide) (fun _ => ?_) (fun q => absurd q.symm (m1_ne (by omega)))
                have eR : stK B t (peK B t g k q) = .inl (nx B t (nx B t (nx B t (nx B t (nx B t (nx B t q)))))) := by simp only [peK, atK, agK, wtK, seK, stK, if_pos h6, if_pos q21, if_pos q27, if_neg q36, if_pos q46, if_pos u46, if_pos q54, if_neg q69]
                exact g_vret hR (by decide +kernel : decode prog_7_method_5_code 92 = .ok (.return_, 1)) rfl ⟨rfl, by rw [eR]; exact ⟨le.1, _, _, S69⟩⟩
            · have e54 := e54.symm; subst e54
              replace q54 := fun z => q54 ⟨rfl, z⟩
              refine g_istore (L' := [some (.ref 29), some (.ref 10), some (.int (nI k)), some (.int (nI (vl B t (nx B t (nx B t q))))), some (.int (nI 0)), some (.int (nI (vl B t (nx B t (nx B t (nx B t (nx B t q))))))), some (.int (nI 0))]) (by decide +kernel : decode prog_7_method_5_code 57 = .ok (.istore 6, 2)) (Nat.le_of_ble_eq_true rfl) rfl ?_
              refine g_iload (by decide +kernel : decode prog_7_method_5_code 59 = .ok (.iload 6, 2)) rfl ?_
              refine g_if_eqN (tgt := 68) (by decide +kernel : decode prog_7_method_5_code 61 = .ok (.ifCond .eq 7, 3)) (by decide) (by decide) (fun _ => ?_) (fun h => False.elim (by revert h; decide))
              refine g_aload_n (by decide +kernel : decode prog_7_method_5_code 68 = .ok (.aload_n 0, 1)) rfl ?_
              refine g_callVV [] (by decide +kernel : decode prog_7_method_5_code 69 = .ok (.invokevirtual 84, 3)) lk_Tp_84 (p_semi S46) rfl rfl rfl rfl (Nat.le_of_ble_eq_true rfl) (Nat.le_of_ble_eq_true rfl) (fun s69 h69 => ?_)
              rcases h69 with ⟨q69, S69⟩ | ⟨q69, S69⟩
              · skip
                refine g_aload_n (by decide +kernel : decode prog_7_method_5_code 72 = .ok (.aload_n 0, 1)) rfl ?_
                refine g_getI (by decide +kernel : decode prog_7_method_5_code 73 = .ok (.getfield 19, 3)) fl_Tp_19.get rfl rfl ?_
                refine g_top (w := (-1)) (S69.f) ?_
                refine g_iconst (v := (-1)) (by decide +kernel : decode prog_7_method_5_code 76 = .ok (.iconst (-1), 1)) (by decide) ?_
                refine g_icmp_ne (tgt := 92) (by decide +kernel : decode prog_7_method_5_code 77 = .ok (.if_icmp .ne 15, 3)) (by decide) (fun h => False.elim (by revert h; decide)) (fun _ => ?_)
                refine g_aload_n (by decide +kernel : decode prog_7_method_5_code 80 = .ok (.aload_n 1, 1)) rfl ?_
                refine g_iload_n (by decide +kernel : decode prog_7_method_5_code 81 = .ok (.iload_n 2, 1)) rfl ?_
                refine g_iload (by decide +kernel : decode prog_7_method_5_code 82 = .ok (.iload 4, 2)) rfl ?_
                refine g_iload (by decide +kernel : decode prog_7_method_5_code 84 = .ok (.iload 5, 2)) rfl ?_
                refine g_iload_n (by decide +kernel : decode prog_7_method_5_code 86 = .ok (.iload_n 3, 1)) rfl ?_
                refine g_iload (by decide +kernel : decode prog_7_method_5_code 87 = .ok (.iload 6, 2)) rfl ?_
                refine g_callVV [.int (nI k), .int (nI 0), .int (nI (vl B t (nx B t (nx B t (nx B t (nx B t q)))))), .int (nI (vl B t (nx B t (nx B t q)))), .int (nI 0)] (by decide +kernel : decode prog_7_method_5_code 89 = .ok (.invokevirtual 87, 3)) lk_Tp_87 (p_adm0 S69 (k := k) (a := 0) (w := vl B t (nx B t (nx B t (nx B t (nx B t q))))) (p := vl B t (nx B t (nx B t q))) (by omega) hk (by first | exact Nat.zero_le _ | omega) (by first | exact Nat.zero_le _ | omega) (by first | exact Nat.zero_le _ | omega)) rfl rfl rfl rfl (Nat.le_of_ble_eq_true rfl) (Nat.le_of_ble_eq_true rfl) (fun s89 h89 => ?_)
                have S89 := h89
                have eR : stK B t (peK B t g k q) = .inr (nx B t (nx B t (nx B t (nx B t (nx B t (nx B t q))))), adm g k 0 (vl B t (nx B t (nx B t (nx B t (nx B t q))))) (vl B t (nx B t (nx B t q))) 1) := by simp only [peK, atK, agK, wtK, seK, stK, if_pos h6, if_pos q21, if_pos q27, if_neg q36, if_pos q46, if_pos u46, if_neg q54, if_pos q69]
                exact g_vret hR (by decide +kernel : decode prog_7_method_5_code 92 = .ok (.return_, 1)) rfl ⟨rfl, by rw [eR]; exact S89⟩
              · have le := S69.le
                refine g_aload_n (by decide +kernel : decode prog_7_method_5_code 72 = .ok (.aload_n 0, 1)) rfl ?_
                refine g_getI (by decide +kernel : decode prog_7_method_5_code 73 = .ok (.getfield 19, 3)) fl_Tp_19.get rfl rfl ?_
                refine g_top (w := nI (nx B t (nx B t (nx B t (nx B t (nx B t q)))))) (S69.f) ?_
                refine g_iconst (v := (-1)) (by decide +kernel : decode prog_7_method_5_code 76 = .ok (.iconst (-1), 1)) (by decide) ?_
                refine g_icmp_ne (tgt := 92) (by decide +kernel : decode prog_7_method_5_code 77 = .ok (.if_icmp .ne 15, 3)) (by decide) (fun _ => ?_) (fun q => absurd q.symm (m1_ne (by omega)))
                have eR : stK B t (peK B t g k q) = .inl (nx B t (nx B t (nx B t (nx B t (nx B t q))))) := by simp only [peK, atK, agK, wtK, seK, stK, if_pos h6, if_pos q21, if_pos q27, if_neg q36, if_pos q46, if_pos u46, if_neg q54, if_neg q69]
                exact g_vret hR (by decide +kernel : decode prog_7_method_5_code 92 = .ok (.return_, 1)) rfl ⟨rfl, by rw [eR]; exact ⟨le.1, _, _, S69⟩⟩
          · have le := S46.le
            refine g_istore (L' := [some (.ref 29), some (.ref 10), some (.int (nI k)), some (.int (nI (vl B t (nx B t (nx B t q))))), some (.int (nI 0)), some (.int (nI 0)), none]) (by decide +kernel : decode prog_7_method_5_code 49 = .ok (.istore 5, 2)) (Nat.le_of_ble_eq_true rfl) rfl ?_
            refine g_aload_n (by decide +kernel : decode prog_7_method_5_code 51 = .ok (.aload_n 0, 1)) rfl ?_
            refine g_ldcS (i := 3) (by decide +kernel : decode prog_7_method_5_code 52 = .ok (.ldc 82, 2)) rfl (by decide) rfl ?_
            refine g_callVI [.ref (1000 + 3)] (by decide +kernel : decode prog_7_method_5_code 54 = .ok (.invokevirtual 39, 3)) lk_Tp_39 (p_isNext S46 (i := 3) (W := W_seeks) (by decide) rfl) rfl rfl rfl rfl (Nat.le_of_ble_eq_true rfl) (Nat.le_of_ble_eq_true rfl) (fun r54 s54 h54 => ?_)
            obtain ⟨e54, h54⟩ := h54
            have e54 := e54.symm; subst e54
            have w54 : r54 = nI 0 := by rcases h54 with ⟨z, q⟩ | ⟨z, _⟩; exact absurd q.1.symm (m1_ne (by omega)); exact z
            subst w54
            refine g_istore (L' := [some (.ref 29), some (.ref 10), some (.int (nI k)), some (.int (nI (vl B t (nx B t (nx B t q))))), some (.int (nI 0)), some (.int (nI 0)), some (.int (nI 0))]) (by decide +kernel : decode prog_7_method_5_code 57 = .ok (.istore 6, 2)) (Nat.le_of_ble_eq_true rfl) rfl ?_
            refine g_iload (by decide +kernel : decode prog_7_method_5_code 59 = .ok (.iload 6, 2)) rfl ?_
            refine g_if_eqN (tgt := 68) (by decide +kernel : decode prog_7_method_5_code 61 = .ok (.ifCond .eq 7, 3)) (by decide) (by decide) (fun _ => ?_) (fun h => False.elim (by revert h; decide))
            refine g_aload_n (by decide +kernel : decode prog_7_method_5_code 68 = .ok (.aload_n 0, 1)) rfl ?_
            refine g_callVV [] (by decide +kernel : decode prog_7_method_5_code 69 = .ok (.invokevirtual 84, 3)) lk_Tp_84 (p_semiW S46 le.1) rfl rfl rfl rfl (Nat.le_of_ble_eq_true rfl) (Nat.le_of_ble_eq_true rfl) (fun s69 h69 => ?_)
            obtain ⟨q69, S69⟩ := h69
            refine g_aload_n (by decide +kernel : decode prog_7_method_5_code 72 = .ok (.aload_n 0, 1)) rfl ?_
            refine g_getI (by decide +kernel : decode prog_7_method_5_code 73 = .ok (.getfield 19, 3)) fl_Tp_19.get rfl rfl ?_
            refine g_top (w := nI (nx B t (nx B t (nx B t (nx B t q))))) (S69.f) ?_
            refine g_iconst (v := (-1)) (by decide +kernel : decode prog_7_method_5_code 76 = .ok (.iconst (-1), 1)) (by decide) ?_
            refine g_icmp_ne (tgt := 92) (by decide +kernel : decode prog_7_method_5_code 77 = .ok (.if_icmp .ne 15, 3)) (by decide) (fun _ => ?_) (fun q => absurd q.symm (m1_ne (by omega)))
            have eR : stK B t (peK B t g k q) = .inl (nx B t (nx B t (nx B t (nx B t q)))) := by simp only [peK, atK, agK, wtK, seK, stK, if_pos h6, if_pos q21, if_pos q27, if_neg q36, if_pos q46, if_neg u46]
            exact g_vret hR (by decide +kernel : decode prog_7_method_5_code 92 = .ok (.return_, 1)) rfl ⟨rfl, by rw [eR]; exact ⟨le.1, _, _, S69⟩⟩
          · skip
            refine g_istore (L' := [some (.ref 29), some (.ref 10), some (.int (nI k)), some (.int (nI (vl B t (nx B t (nx B t q))))), some (.int (nI 0)), some (.int (nI 0)), none]) (by decide +kernel : decode prog_7_method_5_code 49 = .ok (.istore 5, 2)) (Nat.le_of_ble_eq_true rfl) rfl ?_
            refine g_aload_n (by decide +kernel : decode prog_7_method_5_code 51 = .ok (.aload_n 0, 1)) rfl ?_
            refine g_ldcS (i := 3) (by decide +kernel : decode prog_7_method_5_code 52 = .ok (.ldc 82, 2)) rfl (by decide) rfl ?_
            refine g_callVI [.ref (1000 + 3)] (by decide +kernel : decode prog_7_method_5_code 54 = .ok (.invokevirtual 39, 3)) lk_Tp_39 (p_isNext S46 (i := 3) (W := W_seeks) (by decide) rfl) rfl rfl rfl rfl (Nat.le_of_ble_eq_true rfl) (Nat.le_of_ble_eq_true rfl) (fun r54 s54 h54 => ?_)
            rcases h54 with ⟨e54, ⟨rfl, _, q54⟩ | ⟨rfl, q54⟩⟩
            · have e54 := e54.symm; subst e54
              refine g_istore (L' := [some (.ref 29), some (.ref 10), some (.int (nI k)), some (.int (nI (vl B t (nx B t (nx B t q))))), some (.int (nI 0)), some (.int (nI 0)), some (.int (nI 1))]) (by decide +kernel : decode prog_7_method_5_code 57 = .ok (.istore 6, 2)) (Nat.le_of_ble_eq_true rfl) rfl ?_
              refine g_iload (by decide +kernel : decode prog_7_method_5_code 59 = .ok (.iload 6, 2)) rfl ?_
              refine g_if_eqN (tgt := 68) (by decide +kernel : decode prog_7_method_5_code 61 = .ok (.ifCond .eq 7, 3)) (by decide) (by decide) (fun h => False.elim (by revert h; decide)) (fun _ => ?_)
              refine g_aload_n (by decide +kernel : decode prog_7_method_5_code 64 = .ok (.aload_n 0, 1)) rfl ?_
              refine g_callVV [] (by decide +kernel : decode prog_7_method_5_code 65 = .ok (.invokevirtual 25, 3)) lk_Tp_25 (p_adv S46) rfl rfl rfl rfl (Nat.le_of_ble_eq_true rfl) (Nat.le_of_ble_eq_true rfl) (fun s65 h65 => ?_)
              have S65 := h65
              refine g_aload_n (by decide +kernel : decode prog_7_method_5_code 68 = .ok (.aload_n 0, 1)) rfl ?_
              refine g_callVV [] (by decide +kernel : decode prog_7_method_5_code 69 = .ok (.invokevirtual 84, 3)) lk_Tp_84 (p_semi S65) rfl rfl rfl rfl (Nat.le_of_ble_eq_true rfl) (Nat.le_of_ble_eq_true rfl) (fun s69 h69 => ?_)
              rcases h69 with ⟨q69, S69⟩ | ⟨q69, S69⟩
              · skip
                refine g_aload_n (by decide +kernel : decode prog_7_method_5_code 72 = .ok (.aload_n 0, 1)) rfl ?_
                refine g_getI (by decide +kernel : decode prog_7_method_5_code 73 = .ok (.getfield 19, 3)) fl_Tp_19.get rfl rfl ?_
                refine g_top (w := (-1)) (S69.f) ?_
                refine g_iconst (v := (-1)) (by decide +kernel : decode prog_7_method_5_code 76 = .ok (.iconst (-1), 1)) (by decide) ?_
                refine g_icmp_ne (tgt := 92) (by decide +kernel : decode prog_7_method_5_code 77 = .ok (.if_icmp .ne 15, 3)) (by decide) (fun h => False.elim (by revert h; decide)) (fun _ => ?_)
                refine g_aload_n (by decide +kernel : decode prog_7_method_5_code 80 = .ok (.aload_n 1, 1)) rfl ?_
                refine g_iload_n (by decide +kernel : decode prog_7_method_5_code 81 = .ok (.iload_n 2, 1)) rfl ?_
                refine g_iload (by decide +kernel : decode prog_7_method_5_code 82 = .ok (.iload 4, 2)) rfl ?_
                refine g_iload (by decide +kernel : decode prog_7_method_5_code 84 = .ok (.iload 5, 2)) rfl ?_
                refine g_iload_n (by decide +kernel : decode prog_7_method_5_code 86 = .ok (.iload_n 3, 1)) rfl ?_
                refine g_iload (by decide +kernel : decode prog_7_method_5_code 87 = .ok (.iload 6, 2)) rfl ?_
                refine g_callVV [.int (nI k), .int (nI 0), .int (nI 0), .int (nI (vl B t (nx B t (nx B t q)))), .int (nI 1)] (by decide +kernel : decode prog_7_method_5_code 89 = .ok (.invokevirtual 87, 3)) lk_Tp_87 (p_adm1 S69 (k := k) (a := 0) (w := 0) (p := vl B t (nx B t (nx B t q))) (by omega) hk (by first | exact Nat.zero_le _ | omega) (by first | exact Nat.zero_le _ | omega) (by first | exact Nat.zero_le _ | omega)) rfl rfl rfl rfl (Nat.le_of_ble_eq_true rfl) (Nat.le_of_ble_eq_true rfl) (fun s89 h89 => ?_)
                have S89 := h89
                have eR : stK B t (peK B t g k q) = .inr (nx B t (nx B t (nx B t (nx B t (nx B t q)))), adm g k 0 0 (vl B t (nx B t (nx B t q))) 0) := by simp only [peK, atK, agK, wtK, seK, stK, if_pos h6, if_pos q21, if_pos q27, if_neg q36, if_neg q46, if_pos q54, if_pos q69]
                exact g_vret hR (by decide +kernel : decode prog_7_method_5_code 92 = .ok (.return_, 1)) rfl ⟨rfl, by rw [eR]; exact S89⟩
              · have le := S69.le
                refine g_aload_n (by decide +kernel : decode prog_7_method_5_code 72 = .ok (.aload_n 0, 1)) rfl ?_
                refine g_getI (by decide +kernel : decode prog_7_method_5_code 73 = .ok (.getfield 19, 3)) fl_Tp_19.get rfl rfl ?_
                refine g_top (w := nI (nx B t (nx B t (nx B t (nx B t q))))) (S69.f) ?_
                refine g_iconst (v := (-1)) (by decide +kernel : decode prog_7_method_5_code 76 = .ok (.iconst (-1), 1)) (by decide) ?_
                refine g_icmp_ne (tgt := 92) (by decide +kernel : decode prog_7_method_5_code 77 = .ok (.if_icmp .ne 15, 3)) (by decide) (fun _ => ?_) (fun q => absurd q.symm (m1_ne (by omega)))
                have eR : stK B t (peK B t g k q) = .inl (nx B t (nx B t (nx B t (nx B t q)))) := by simp only [peK, atK, agK, wtK, seK, stK, if_pos h6, if_pos q21, if_pos q27, if_neg q36, if_neg q46, if_pos q54, if_neg q69]
                exact g_vret hR (by decide +kernel : decode prog_7_method_5_code 92 = .ok (.return_, 1)) rfl ⟨rfl, by rw [eR]; exact ⟨le.1, _, _, S69⟩⟩
            · have e54 := e54.symm; subst e54
              replace q54 := fun z => q54 ⟨rfl, z⟩
              refine g_istore (L' := [some (.ref 29), some (.ref 10), some (.int (nI k)), some (.int (nI (vl B t (nx B t (nx B t q))))), some (.int (nI 0)), some (.int (nI 0)), some (.int (nI 0))]) (by decide +kernel : decode prog_7_method_5_code 57 = .ok (.istore 6, 2)) (Nat.le_of_ble_eq_true rfl) rfl ?_
              refine g_iload (by decide +kernel : decode prog_7_method_5_code 59 = .ok (.iload 6, 2)) rfl ?_
              refine g_if_eqN (tgt := 68) (by decide +kernel : decode prog_7_method_5_code 61 = .ok (.ifCond .eq 7, 3)) (by decide) (by decide) (fun _ => ?_) (fun h => False.elim (by revert h; decide))
              refine g_aload_n (by decide +kernel : decode prog_7_method_5_code 68 = .ok (.aload_n 0, 1)) rfl ?_
              refine g_callVV [] (by decide +kernel : decode prog_7_method_5_code 69 = .ok (.invokevirtual 84, 3)) lk_Tp_84 (p_semi S46) rfl rfl rfl rfl (Nat.le_of_ble_eq_true rfl) (Nat.le_of_ble_eq_true rfl) (fun s69 h69 => ?_)
              rcases h69 with ⟨q69, S69⟩ | ⟨q69, S69⟩
              · skip
                refine g_aload_n (by decide +kernel : decode prog_7_method_5_code 72 = .ok (.aload_n 0, 1)) rfl ?_
                refine g_getI (by decide +kernel : decode prog_7_method_5_code 73 = .ok (.getfield 19, 3)) fl_Tp_19.get rfl rfl ?_
                refine g_top (w := (-1)) (S69.f) ?_
                refine g_iconst (v := (-1)) (by decide +kernel : decode prog_7_method_5_code 76 = .ok (.iconst (-1), 1)) (by decide) ?_
                refine g_icmp_ne (tgt := 92) (by decide +kernel : decode prog_7_method_5_code 77 = .ok (.if_icmp .ne 15, 3)) (by decide) (fun h => False.elim (by revert h; decide)) (fun _ => ?_)
                refine g_aload_n (by decide +kernel : decode prog_7_method_5_code 80 = .ok (.aload_n 1, 1)) rfl ?_
                refine g_iload_n (by decide +kernel : decode prog_7_method_5_code 81 = .ok (.iload_n 2, 1)) rfl ?_
                refine g_iload (by decide +kernel : decode prog_7_method_5_code 82 = .ok (.iload 4, 2)) rfl ?_
                refine g_iload (by decide +kernel : decode prog_7_method_5_code 84 = .ok (.iload 5, 2)) rfl ?_
                refine g_iload_n (by decide +kernel : decode prog_7_method_5_code 86 = .ok (.iload_n 3, 1)) rfl ?_
                refine g_iload (by decide +kernel : decode prog_7_method_5_code 87 = .ok (.iload 6, 2)) rfl ?_
                refine g_callVV [.int (nI k), .int (nI 0), .int (nI 0), .int (nI (vl B t (nx B t (nx B t q)))), .int (nI 0)] (by decide +kernel : decode prog_7_method_5_code 89 = .ok (.invokevirtual 87, 3)) lk_Tp_87 (p_adm0 S69 (k := k) (a := 0) (w := 0) (p := vl B t (nx B t (nx B t q))) (by omega) hk (by first | exact Nat.zero_le _ | omega) (by first | exact Nat.zero_le _ | omega) (by first | exact Nat.zero_le _ | omega)) rfl rfl rfl rfl (Nat.le_of_ble_eq_true rfl) (Nat.le_of_ble_eq_true rfl) (fun s89 h89 => ?_)
                have S89 := h89
                have eR : stK B t (peK B t g k q) = .inr (nx B t (nx B t (nx B t (nx B t q))), adm g k 0 0 (vl B t (nx B t (nx B t q))) 1) := by simp only [peK, atK, agK, wtK, seK, stK, if_pos h6, if_pos q21, if_pos q27, if_neg q36, if_neg q46, if_neg q54, if_pos q69]
                exact g_vret hR (by decide +kernel : decode prog_7_method_5_code 92 = .ok (.return_, 1)) rfl ⟨rfl, by rw [eR]; exact S89⟩
              · have le := S69.le
                refine g_aload_n (by decide +kernel : decode prog_7_method_5_code 72 = .ok (.aload_n 0, 1)) rfl ?_
                refine g_getI (by decide +kernel : decode prog_7_method_5_code 73 = .ok (.getfield 19, 3)) fl_Tp_19.get rfl rfl ?_
                refine g_top (w := nI (nx B t (nx B t (nx B t q)))) (S69.f) ?_
                refine g_iconst (v := (-1)) (by decide +kernel : decode prog_7_method_5_code 76 = .ok (.iconst (-1), 1)) (by decide) ?_
                refine g_icmp_ne (tgt := 92) (by decide +kernel : decode prog_7_method_5_code 77 = .ok (.if_icmp .ne 15, 3)) (by decide) (fun _ => ?_) (fun q => absurd q.symm (m1_ne (by omega)))
                have eR : stK B t (peK B t g k q) = .inl (nx B t (nx B t (nx B t q))) := by simp only [peK, atK, agK, wtK, seK, stK, if_pos h6, if_pos q21, if_pos q27, if_neg q36, if_neg q46, if_neg q54, if_neg q69]
                exact g_vret hR (by decide +kernel : decode prog_7_method_5_code 92 = .ok (.return_, 1)) rfl ⟨rfl, by rw [eR]; exact ⟨le.1, _, _, S69⟩⟩
      · have le := S27.le
        refine g_istore_n (L' := [some (.ref 29), some (.ref 10), some (.int (nI k)), some (.int (nI 0)), none, none, none]) (by decide +kernel : decode prog_7_method_5_code 30 = .ok (.istore_n 3, 1)) (Nat.le_of_ble_eq_true rfl) rfl ?_
        refine g_aload_n (by decide +kernel : decode prog_7_method_5_code 31 = .ok (.aload_n 0, 1)) rfl ?_
        refine g_ldcS (i := 1) (by decide +kernel : decode prog_7_method_5_code 32 = .ok (.ldc 74, 2)) rfl (by decide) rfl ?_
        refine g_bipush (v := nI 99) (by decide +kernel : decode prog_7_method_5_code 34 = .ok (.bipush 99, 2)) (by decide) ?_
        refine g_callVI [.ref (1000 + 1), .int (nI 99)] (by decide +kernel : decode prog_7_method_5_code 36 = .ok (.invokevirtual 76, 3)) lk_Tp_76 (p_takeIfW S27 le.1 (i := 1) (m := 99) (by decide) (by decide)) rfl rfl rfl rfl (Nat.le_of_ble_eq_true rfl) (Nat.le_of_ble_eq_true rfl) (fun r36 s36 h36 => ?_)
        obtain ⟨q36, S36⟩ := h36
        refine g_istore (L' := [some (.ref 29), some (.ref 10), some (.int (nI k)), some (.int (nI 0)), some (.int r36), none, none]) (by decide +kernel : decode prog_7_method_5_code 39 = .ok (.istore 4, 2)) (Nat.le_of_ble_eq_true rfl) rfl ?_
        refine g_aload_n (by decide +kernel : decode prog_7_method_5_code 41 = .ok (.aload_n 0, 1)) rfl ?_
        refine g_ldcS (i := 2) (by decide +kernel : decode prog_7_method_5_code 42 = .ok (.ldc 80, 2)) rfl (by decide) rfl ?_
        refine g_bipush (v := nI 9) (by decide +kernel : decode prog_7_method_5_code 44 = .ok (.bipush 9, 2)) (by decide) ?_
        refine g_callVI [.ref (1000 + 2), .int (nI 9)] (by decide +kernel : decode prog_7_method_5_code 46 = .ok (.invokevirtual 76, 3)) lk_Tp_76 (p_takeIfW S36 le.1 (i := 2) (m := 9) (by decide) (by decide)) rfl rfl rfl rfl (Nat.le_of_ble_eq_true rfl) (Nat.le_of_ble_eq_true rfl) (fun r46 s46 h46 => ?_)
        obtain ⟨q46, S46⟩ := h46
        refine g_istore (L' := [some (.ref 29), some (.ref 10), some (.int (nI k)), some (.int (nI 0)), some (.int r36), some (.int r46), none]) (by decide +kernel : decode prog_7_method_5_code 49 = .ok (.istore 5, 2)) (Nat.le_of_ble_eq_true rfl) rfl ?_
        refine g_aload_n (by decide +kernel : decode prog_7_method_5_code 51 = .ok (.aload_n 0, 1)) rfl ?_
        refine g_ldcS (i := 3) (by decide +kernel : decode prog_7_method_5_code 52 = .ok (.ldc 82, 2)) rfl (by decide) rfl ?_
        refine g_callVI [.ref (1000 + 3)] (by decide +kernel : decode prog_7_method_5_code 54 = .ok (.invokevirtual 39, 3)) lk_Tp_39 (p_isNext S46 (i := 3) (W := W_seeks) (by decide) rfl) rfl rfl rfl rfl (Nat.le_of_ble_eq_true rfl) (Nat.le_of_ble_eq_true rfl) (fun r54 s54 h54 => ?_)
        obtain ⟨e54, h54⟩ := h54
        have e54 := e54.symm; subst e54
        have w54 : r54 = nI 0 := by rcases h54 with ⟨z, q⟩ | ⟨z, _⟩; exact absurd q.1.symm (m1_ne (by omega)); exact z
        subst w54
        refine g_istore (L' := [some (.ref 29), some (.ref 10), some (.int (nI k)), some (.int (nI 0)), some (.int r36), some (.int r46), some (.int (nI 0))]) (by decide +kernel : decode prog_7_method_5_code 57 = .ok (.istore 6, 2)) (Nat.le_of_ble_eq_true rfl) rfl ?_
        refine g_iload (by decide +kernel : decode prog_7_method_5_code 59 = .ok (.iload 6, 2)) rfl ?_
        refine g_if_eqN (tgt := 68) (by decide +kernel : decode prog_7_method_5_code 61 = .ok (.ifCond .eq 7, 3)) (by decide) (by decide) (fun _ => ?_) (fun h => False.elim (by revert h; decide))
        refine g_aload_n (by decide +kernel : decode prog_7_method_5_code 68 = .ok (.aload_n 0, 1)) rfl ?_
        refine g_callVV [] (by decide +kernel : decode prog_7_method_5_code 69 = .ok (.invokevirtual 84, 3)) lk_Tp_84 (p_semiW S46 le.1) rfl rfl rfl rfl (Nat.le_of_ble_eq_true rfl) (Nat.le_of_ble_eq_true rfl) (fun s69 h69 => ?_)
        obtain ⟨q69, S69⟩ := h69
        refine g_aload_n (by decide +kernel : decode prog_7_method_5_code 72 = .ok (.aload_n 0, 1)) rfl ?_
        refine g_getI (by decide +kernel : decode prog_7_method_5_code 73 = .ok (.getfield 19, 3)) fl_Tp_19.get rfl rfl ?_
        refine g_top (w := nI (nx B t (nx B t q))) (S69.f) ?_
        refine g_iconst (v := (-1)) (by decide +kernel : decode prog_7_method_5_code 76 = .ok (.iconst (-1), 1)) (by decide) ?_
        refine g_icmp_ne (tgt := 92) (by decide +kernel : decode prog_7_method_5_code 77 = .ok (.if_icmp .ne 15, 3)) (by decide) (fun _ => ?_) (fun q => absurd q.symm (m1_ne (by omega)))
        have eR : stK B t (peK B t g k q) = .inl (nx B t (nx B t q)) := by simp only [peK, atK, agK, wtK, seK, stK, if_pos h6, if_pos q21, if_neg q27]
        exact g_vret hR (by decide +kernel : decode prog_7_method_5_code 92 = .ok (.return_, 1)) rfl ⟨rfl, by rw [eR]; exact ⟨le.1, _, _, S69⟩⟩
    · have le := S21.le
      refine g_aload_n (by decide +kernel : decode prog_7_method_5_code 24 = .ok (.aload_n 0, 1)) rfl ?_
      refine g_bipush (v := nI 11) (by decide +kernel : decode prog_7_method_5_code 25 = .ok (.bipush 11, 2)) (by decide) ?_
      refine g_callVI [.int (nI 11)] (by decide +kernel : decode prog_7_method_5_code 27 = .ok (.invokevirtual 70, 3)) lk_Tp_70 (p_takeNumberW S21 le.1 (m := 11) (by decide)) rfl rfl rfl rfl (Nat.le_of_ble_eq_true rfl) (Nat.le_of_ble_eq_true rfl) (fun r27 s27 h27 => ?_)
      obtain ⟨q27, S27⟩ := h27
      refine g_istore_n (L' := [some (.ref 29), some (.ref 10), some (.int (nI k)), some (.int r27), none, none, none]) (by decide +kernel : decode prog_7_method_5_code 30 = .ok (.istore_n 3, 1)) (Nat.le_of_ble_eq_true rfl) rfl ?_
      refine g_aload_n (by decide +kernel : decode prog_7_method_5_code 31 = .ok (.aload_n 0, 1)) rfl ?_
      refine g_ldcS (i := 1) (by decide +kernel : decode prog_7_method_5_code 32 = .ok (.ldc 74, 2)) rfl (by decide) rfl ?_
      refine g_bipush (v := nI 99) (by decide +kernel : decode prog_7_method_5_code 34 = .ok (.bipush 99, 2)) (by decide) ?_
      refine g_callVI [.ref (1000 + 1), .int (nI 99)] (by decide +kernel : decode prog_7_method_5_code 36 = .ok (.invokevirtual 76, 3)) lk_Tp_76 (p_takeIfW S27 le.1 (i := 1) (m := 99) (by decide) (by decide)) rfl rfl rfl rfl (Nat.le_of_ble_eq_true rfl) (Nat.le_of_ble_eq_true rfl) (fun r36 s36 h36 => ?_)
      obtain ⟨q36, S36⟩ := h36
      refine g_istore (L' := [some (.ref 29), some (.ref 10), some (.int (nI k)), some (.int r27), some (.int r36), none, none]) (by decide +kernel : decode prog_7_method_5_code 39 = .ok (.istore 4, 2)) (Nat.le_of_ble_eq_true rfl) rfl ?_
      refine g_aload_n (by decide +kernel : decode prog_7_method_5_code 41 = .ok (.aload_n 0, 1)) rfl ?_
      refine g_ldcS (i := 2) (by decide +kernel : decode prog_7_method_5_code 42 = .ok (.ldc 80, 2)) rfl (by decide) rfl ?_
      refine g_bipush (v := nI 9) (by decide +kernel : decode prog_7_method_5_code 44 = .ok (.bipush 9, 2)) (by decide) ?_
      refine g_callVI [.ref (1000 + 2), .int (nI 9)] (by decide +kernel : decode prog_7_method_5_code 46 = .ok (.invokevirtual 76, 3)) lk_Tp_76 (p_takeIfW S36 le.1 (i := 2) (m := 9) (by decide) (by decide)) rfl rfl rfl rfl (Nat.le_of_ble_eq_true rfl) (Nat.le_of_ble_eq_true rfl) (fun r46 s46 h46 => ?_)
      obtain ⟨q46, S46⟩ := h46
      refine g_istore (L' := [some (.ref 29), some (.ref 10), some (.int (nI k)), some (.int r27), some (.int r36), some (.int r46), none]) (by decide +kernel : decode prog_7_method_5_code 49 = .ok (.istore 5, 2)) (Nat.le_of_ble_eq_true rfl) rfl ?_
      refine g_aload_n (by decide +kernel : decode prog_7_method_5_code 51 = .ok (.aload_n 0, 1)) rfl ?_
      refine g_ldcS (i := 3) (by decide +kernel : decode prog_7_method_5_code 52 = .ok (.ldc 82, 2)) rfl (by decide) rfl ?_
      refine g_callVI [.ref (1000 + 3)] (by decide +kernel : decode prog_7_method_5_code 54 = .ok (.invokevirtual 39, 3)) lk_Tp_39 (p_isNext S46 (i := 3) (W := W_seeks) (by decide) rfl) rfl rfl rfl rfl (Nat.le_of_ble_eq_true rfl) (Nat.le_of_ble_eq_true rfl) (fun r54 s54 h54 => ?_)
      obtain ⟨e54, h54⟩ := h54
      have e54 := e54.symm; subst e54
      have w54 : r54 = nI 0 := by rcases h54 with ⟨z, q⟩ | ⟨z, _⟩; exact absurd q.1.symm (m1_ne (by omega)); exact z
      subst w54
      refine g_istore (L' := [some (.ref 29), some (.ref 10), some (.int (nI k)), some (.int r27), some (.int r36), some (.int r46), some (.int (nI 0))]) (by decide +kernel : decode prog_7_method_5_code 57 = .ok (.istore 6, 2)) (Nat.le_of_ble_eq_true rfl) rfl ?_
      refine g_iload (by decide +kernel : decode prog_7_method_5_code 59 = .ok (.iload 6, 2)) rfl ?_
      refine g_if_eqN (tgt := 68) (by decide +kernel : decode prog_7_method_5_code 61 = .ok (.ifCond .eq 7, 3)) (by decide) (by decide) (fun _ => ?_) (fun h => False.elim (by revert h; decide))
      refine g_aload_n (by decide +kernel : decode prog_7_method_5_code 68 = .ok (.aload_n 0, 1)) rfl ?_
      refine g_callVV [] (by decide +kernel : decode prog_7_method_5_code 69 = .ok (.invokevirtual 84, 3)) lk_Tp_84 (p_semiW S46 le.1) rfl rfl rfl rfl (Nat.le_of_ble_eq_true rfl) (Nat.le_of_ble_eq_true rfl) (fun s69 h69 => ?_)
      obtain ⟨q69, S69⟩ := h69
      refine g_aload_n (by decide +kernel : decode prog_7_method_5_code 72 = .ok (.aload_n 0, 1)) rfl ?_
      refine g_getI (by decide +kernel : decode prog_7_method_5_code 73 = .ok (.getfield 19, 3)) fl_Tp_19.get rfl rfl ?_
      refine g_top (w := nI (nx B t q)) (S69.f) ?_
      refine g_iconst (v := (-1)) (by decide +kernel : decode prog_7_method_5_code 76 = .ok (.iconst (-1), 1)) (by decide) ?_
      refine g_icmp_ne (tgt := 92) (by decide +kernel : decode prog_7_method_5_code 77 = .ok (.if_icmp .ne 15, 3)) (by decide) (fun _ => ?_) (fun q => absurd q.symm (m1_ne (by omega)))
      have eR : stK B t (peK B t g k q) = .inl (nx B t q) := by simp only [peK, atK, agK, wtK, seK, stK, if_pos h6, if_neg q21]
      exact g_vret hR (by decide +kernel : decode prog_7_method_5_code 92 = .ok (.return_, 1)) rfl ⟨rfl, by rw [eR]; exact ⟨le.1, _, _, S69⟩⟩
  · refine g_aload_n (by decide +kernel : decode prog_7_method_5_code 9 = .ok (.aload_n 0, 1)) rfl ?_
    refine g_callVV [] (by decide +kernel : decode prog_7_method_5_code 10 = .ok (.invokevirtual 61, 3)) lk_Tp_61 (p_fail h) rfl rfl rfl rfl (Nat.le_of_ble_eq_true rfl) (Nat.le_of_ble_eq_true rfl) (fun s10 h10 => ?_)
    have S10 := h10
    have le := S10.le
    have eR : stK B t (peK B t g k q) = .inl (q) := by simp only [peK, atK, agK, wtK, seK, stK, if_neg h6]
    exact g_vret hR (by decide +kernel : decode prog_7_method_5_code 13 = .ok (.return_, 1)) rfl ⟨rfl, by rw [eR]; exact ⟨le.1, _, _, S10⟩⟩
set_option maxRecDepth 20000 in
theorem r_law {B : Nat → Nat} {t : Nat} {σ0 σ : Store} {q : Nat} {g : Row} (h : PS B t σ0 σ q (-1) g) {i : Nat} (hi : i ≤ 3) : Ct ΛC mt_Tp_readLaw 3 [.ref 29, .ref 10, .int (nI i)] σ (PV (RE B t σ0 (stK B t (laK B t g i q)))) := by
  refine Ct.of (by decide) (Nat.le_of_ble_eq_true rfl) (fun X hR => ?_)
  show G (ΛC, mt_Tp_readLaw, 3) X σ [some (.ref 29), some (.ref 10), some (.int (nI i)), none] [] 0
  have h8 := h.n8
  have hle := h.le
  have hlm := lm_lt i
  refine g_aload_n (by decide +kernel : decode prog_7_method_6_code 0 = .ok (.aload_n 0, 1)) rfl ?_
  refine g_callVV [] (by decide +kernel : decode prog_7_method_6_code 1 = .ok (.invokevirtual 25, 3)) lk_Tp_25 (p_adv h) rfl rfl rfl rfl (Nat.le_of_ble_eq_true rfl) (Nat.le_of_ble_eq_true rfl) (fun s1 h1 => ?_)
  have S1 := h1
  refine g_aload_n (by decide +kernel : decode prog_7_method_6_code 4 = .ok (.aload_n 0, 1)) rfl ?_
  refine g_getsN (j := 1) (by decide +kernel : decode prog_7_method_6_code 5 = .ok (.getstatic 91, 3)) (by decide) (by decide) ?_
  refine g_iload_n (by decide +kernel : decode prog_7_method_6_code 8 = .ok (.iload_n 2, 1)) rfl ?_
  refine g_roload (j := 1) (a := i) (by decide +kernel : decode prog_7_method_6_code 9 = .ok (.iaload, 1)) (by decide) rfl (by show i < 4; omega) ?_
  refine g_top (w := nI (lm i)) (roV1 (by omega)) ?_
  refine g_callVI [.int (nI (lm i))] (by decide +kernel : decode prog_7_method_6_code 10 = .ok (.invokevirtual 70, 3)) lk_Tp_70 (p_takeNumber S1 (m := lm i) (by omega)) rfl rfl rfl rfl (Nat.le_of_ble_eq_true rfl) (Nat.le_of_ble_eq_true rfl) (fun r10 s10 h10 => ?_)
  rcases h10 with ⟨q10, rfl, S10⟩ | ⟨q10, rfl, S10⟩
  · have v10 := q10.2.2
    refine g_istore_n (L' := [some (.ref 29), some (.ref 10), some (.int (nI i)), some (.int (nI (vl B t (nx B t q))))]) (by decide +kernel : decode prog_7_method_6_code 13 = .ok (.istore_n 3, 1)) (Nat.le_of_ble_eq_true rfl) rfl ?_
    refine g_aload_n (by decide +kernel : decode prog_7_method_6_code 14 = .ok (.aload_n 0, 1)) rfl ?_
    refine g_callVV [] (by decide +kernel : decode prog_7_method_6_code 15 = .ok (.invokevirtual 84, 3)) lk_Tp_84 (p_semi S10) rfl rfl rfl rfl (Nat.le_of_ble_eq_true rfl) (Nat.le_of_ble_eq_true rfl) (fun s15 h15 => ?_)
    rcases h15 with ⟨q15, S15⟩ | ⟨q15, S15⟩
    · skip
      refine g_aload_n (by decide +kernel : decode prog_7_method_6_code 18 = .ok (.aload_n 0, 1)) rfl ?_
      refine g_getI (by decide +kernel : decode prog_7_method_6_code 19 = .ok (.getfield 19, 3)) fl_Tp_19.get rfl rfl ?_
      refine g_top (w := (-1)) (S15.f) ?_
      refine g_iconst (v := (-1)) (by decide +kernel : decode prog_7_method_6_code 22 = .ok (.iconst (-1), 1)) (by decide) ?_
      refine g_icmp_ne (tgt := 33) (by decide +kernel : decode prog_7_method_6_code 23 = .ok (.if_icmp .ne 10, 3)) (by decide) (fun h => False.elim (by revert h; decide)) (fun _ => ?_)
      refine g_aload_n (by decide +kernel : decode prog_7_method_6_code 26 = .ok (.aload_n 1, 1)) rfl ?_
      refine g_getR (by decide +kernel : decode prog_7_method_6_code 27 = .ok (.getfield 95, 3)) fl_Tp_95 rfl rfl ?_
      refine g_iload_n (by decide +kernel : decode prog_7_method_6_code 30 = .ok (.iload_n 2, 1)) rfl ?_
      refine g_iload_n (by decide +kernel : decode prog_7_method_6_code 31 = .ok (.iload_n 3, 1)) rfl ?_
      refine g_iastore (a := i) (by decide +kernel : decode prog_7_method_6_code 32 = .ok (.iastore, 1)) rfl rfl (by omega) (by decide) ?_
      have p33 := S15.wl (i := i) (v := nI (vl B t (nx B t q))) (by omega) (Rng.of (by omega))
      have eR : stK B t (laK B t g i q) = .inr (nx B t (nx B t (nx B t q)), upd g (3 + i) (nI (vl B t (nx B t q)))) := by simp only [laK, stK, if_pos q10, if_pos q15]
      exact g_vret hR (by decide +kernel : decode prog_7_method_6_code 33 = .ok (.return_, 1)) rfl ⟨rfl, by rw [eR]; exact p33⟩
    · have le := S15.le
      refine g_aload_n (by decide +kernel : decode prog_7_method_6_code 18 = .ok (.aload_n 0, 1)) rfl ?_
      refine g_getI (by decide +kernel : decode prog_7_method_6_code 19 = .ok (.getfield 19, 3)) fl_Tp_19.get rfl rfl ?_
      refine g_top (w := nI (nx B t (nx B t q))) (S15.f) ?_
      refine g_iconst (v := (-1)) (by decide +kernel : decode prog_7_method_6_code 22 = .ok (.iconst (-1), 1)) (by decide) ?_
      refine g_icmp_ne (tgt := 33) (by decide +kernel : decode prog_7_method_6_code 23 = .ok (.if_icmp .ne 10, 3)) (by decide) (fun _ => ?_) (fun q => absurd q.symm (m1_ne (by omega)))
      have eR : stK B t (laK B t g i q) = .inl (nx B t (nx B t q)) := by simp only [laK, stK, if_pos q10, if_neg q15]
      exact g_vret hR (by decide +kernel : decode prog_7_method_6_code 33 = .ok (.return_, 1)) rfl ⟨rfl, by rw [eR]; exact ⟨le.1, _, _, S15⟩⟩
  · have le := S10.le
    refine g_istore_n (L' := [some (.ref 29), some (.ref 10), some (.int (nI i)), some (.int (nI 0))]) (by decide +kernel : decode prog_7_method_6_code 13 = .ok (.istore_n 3, 1)) (Nat.le_of_ble_eq_true rfl) rfl ?_
    refine g_aload_n (by decide +kernel : decode prog_7_method_6_code 14 = .ok (.aload_n 0, 1)) rfl ?_
    refine g_callVV [] (by decide +kernel : decode prog_7_method_6_code 15 = .ok (.invokevirtual 84, 3)) lk_Tp_84 (p_semiW S10 le.1) rfl rfl rfl rfl (Nat.le_of_ble_eq_true rfl) (Nat.le_of_ble_eq_true rfl) (fun s15 h15 => ?_)
    obtain ⟨q15, S15⟩ := h15
    refine g_aload_n (by decide +kernel : decode prog_7_method_6_code 18 = .ok (.aload_n 0, 1)) rfl ?_
    refine g_getI (by decide +kernel : decode prog_7_method_6_code 19 = .ok (.getfield 19, 3)) fl_Tp_19.get rfl rfl ?_
    refine g_top (w := nI (nx B t q)) (S15.f) ?_
    refine g_iconst (v := (-1)) (by decide +kernel : decode prog_7_method_6_code 22 = .ok (.iconst (-1), 1)) (by decide) ?_
    refine g_icmp_ne (tgt := 33) (by decide +kernel : decode prog_7_method_6_code 23 = .ok (.if_icmp .ne 10, 3)) (by decide) (fun _ => ?_) (fun q => absurd q.symm (m1_ne (by omega)))
    have eR : stK B t (laK B t g i q) = .inl (nx B t q) := by simp only [laK, stK, if_neg q10]
    exact g_vret hR (by decide +kernel : decode prog_7_method_6_code 33 = .ok (.return_, 1)) rfl ⟨rfl, by rw [eR]; exact ⟨le.1, _, _, S15⟩⟩
set_option maxRecDepth 20000 in
theorem r_cover {B : Nat → Nat} {t : Nat} {σ0 σ : Store} {q : Nat} {g : Row} (h : PS B t σ0 σ q (-1) g)  : Ct ΛC mt_Tp_readCover 7 [.ref 29, .ref 10] σ (PV (RE B t σ0 (stK B t (if nm B t q W_cover then coK B t g q else .inl q)))) := by
  refine Ct.of (by decide) (Nat.le_of_ble_eq_true rfl) (fun X hR => ?_)
  show G (ΛC, mt_Tp_readCover, 7) X σ [some (.ref 29), some (.ref 10), none, none] [] 0
  have h8 := h.n8
  have hle := h.le
  refine g_aload_n (by decide +kernel : decode prog_7_method_7_code 0 = .ok (.aload_n 0, 1)) rfl ?_
  refine g_ldcS (i := 4) (by decide +kernel : decode prog_7_method_7_code 1 = .ok (.ldc 98, 2)) rfl (by decide) rfl ?_
  refine g_callVV [.ref (1000 + 4)] (by decide +kernel : decode prog_7_method_7_code 3 = .ok (.invokevirtual 66, 3)) lk_Tp_66 (p_takeName h (i := 4) (W := W_cover) (by decide) rfl) rfl rfl rfl rfl (Nat.le_of_ble_eq_true rfl) (Nat.le_of_ble_eq_true rfl) (fun s3 h3 => ?_)
  rcases h3 with ⟨q3, S3⟩ | ⟨q3, S3⟩
  · skip
    refine g_aload_n (by decide +kernel : decode prog_7_method_7_code 6 = .ok (.aload_n 0, 1)) rfl ?_
    refine g_bipush (v := nI 11) (by decide +kernel : decode prog_7_method_7_code 7 = .ok (.bipush 11, 2)) (by decide) ?_
    refine g_callVI [.int (nI 11)] (by decide +kernel : decode prog_7_method_7_code 9 = .ok (.invokevirtual 70, 3)) lk_Tp_70 (p_takeNumber S3 (m := 11) (by decide)) rfl rfl rfl rfl (Nat.le_of_ble_eq_true rfl) (Nat.le_of_ble_eq_true rfl) (fun r9 s9 h9 => ?_)
    rcases h9 with ⟨q9, rfl, S9⟩ | ⟨q9, rfl, S9⟩
    · have v9 := q9.2.2
      refine g_istore_n (L' := [some (.ref 29), some (.ref 10), some (.int (nI (vl B t (nx B t q)))), none]) (by decide +kernel : decode prog_7_method_7_code 12 = .ok (.istore_n 2, 1)) (Nat.le_of_ble_eq_true rfl) rfl ?_
      refine g_aload_n (by decide +kernel : decode prog_7_method_7_code 13 = .ok (.aload_n 0, 1)) rfl ?_
      refine g_ldcS (i := 5) (by decide +kernel : decode prog_7_method_7_code 14 = .ok (.ldc 100, 2)) rfl (by decide) rfl ?_
      refine g_callVV [.ref (1000 + 5)] (by decide +kernel : decode prog_7_method_7_code 16 = .ok (.invokevirtual 66, 3)) lk_Tp_66 (p_takeName S9 (i := 5) (W := W_is) (by decide) rfl) rfl rfl rfl rfl (Nat.le_of_ble_eq_true rfl) (Nat.le_of_ble_eq_true rfl) (fun s16 h16 => ?_)
      rcases h16 with ⟨q16, S16⟩ | ⟨q16, S16⟩
      · skip
        refine g_aload_n (by decide +kernel : decode prog_7_method_7_code 19 = .ok (.aload_n 0, 1)) rfl ?_
        refine g_bipush (v := nI 9) (by decide +kernel : decode prog_7_method_7_code 20 = .ok (.bipush 9, 2)) (by decide) ?_
        refine g_callVI [.int (nI 9)] (by decide +kernel : decode prog_7_method_7_code 22 = .ok (.invokevirtual 70, 3)) lk_Tp_70 (p_takeNumber S16 (m := 9) (by decide)) rfl rfl rfl rfl (Nat.le_of_ble_eq_true rfl) (Nat.le_of_ble_eq_true rfl) (fun r22 s22 h22 => ?_)
        rcases h22 with ⟨q22, rfl, S22⟩ | ⟨q22, rfl, S22⟩
        · have v22 := q22.2.2
          refine g_istore_n (L' := [some (.ref 29), some (.ref 10), some (.int (nI (vl B t (nx B t q)))), some (.int (nI (vl B t (nx B t (nx B t (nx B t q))))))]) (by decide +kernel : decode prog_7_method_7_code 25 = .ok (.istore_n 3, 1)) (Nat.le_of_ble_eq_true rfl) rfl ?_
          refine g_aload_n (by decide +kernel : decode prog_7_method_7_code 26 = .ok (.aload_n 0, 1)) rfl ?_
          refine g_callVV [] (by decide +kernel : decode prog_7_method_7_code 27 = .ok (.invokevirtual 84, 3)) lk_Tp_84 (p_semi S22) rfl rfl rfl rfl (Nat.le_of_ble_eq_true rfl) (Nat.le_of_ble_eq_true rfl) (fun s27 h27 => ?_)
          rcases h27 with ⟨q27, S27⟩ | ⟨q27, S27⟩
          · skip
            refine g_aload_n (by decide +kernel : decode prog_7_method_7_code 30 = .ok (.aload_n 0, 1)) rfl ?_
            refine g_getI (by decide +kernel : decode prog_7_method_7_code 31 = .ok (.getfield 19, 3)) fl_Tp_19.get rfl rfl ?_
            refine g_top (w := (-1)) (S27.f) ?_
            refine g_iconst (v := (-1)) (by decide +kernel : decode prog_7_method_7_code 34 = .ok (.iconst (-1), 1)) (by decide) ?_
            refine g_icmp_ne (tgt := 45) (by decide +kernel : decode prog_7_method_7_code 35 = .ok (.if_icmp .ne 10, 3)) (by decide) (fun h => False.elim (by revert h; decide)) (fun _ => ?_)
            refine g_aload_n (by decide +kernel : decode prog_7_method_7_code 38 = .ok (.aload_n 1, 1)) rfl ?_
            refine g_getR (by decide +kernel : decode prog_7_method_7_code 39 = .ok (.getfield 102, 3)) fl_Tp_102 rfl rfl ?_
            refine g_iload_n (by decide +kernel : decode prog_7_method_7_code 42 = .ok (.iload_n 2, 1)) rfl ?_
            refine g_iload_n (by decide +kernel : decode prog_7_method_7_code 43 = .ok (.iload_n 3, 1)) rfl ?_
            refine g_iastore (a := vl B t (nx B t q)) (by decide +kernel : decode prog_7_method_7_code 44 = .ok (.iastore, 1)) rfl rfl (by omega) (by decide) ?_
            have p45 := S27.wc (p := vl B t (nx B t q)) (v := nI (vl B t (nx B t (nx B t (nx B t q))))) (by omega) (Rng.of (by omega))
            have eR : stK B t (if nm B t q W_cover then coK B t g q else .inl q) = .inr (nx B t (nx B t (nx B t (nx B t (nx B t q)))), upd g (7 + vl B t (nx B t q)) (nI (vl B t (nx B t (nx B t (nx B t q)))))) := by simp only [coK, cvK, stK, if_pos q3, if_pos q9, if_pos q16, if_pos q22, if_pos q27]
            exact g_vret hR (by decide +kernel : decode prog_7_method_7_code 45 = .ok (.return_, 1)) rfl ⟨rfl, by rw [eR]; exact p45⟩
          · have le := S27.le
            refine g_aload_n (by decide +kernel : decode prog_7_method_7_code 30 = .ok (.aload_n 0, 1)) rfl ?_
            refine g_getI (by decide +kernel : decode prog_7_method_7_code 31 = .ok (.getfield 19, 3)) fl_Tp_19.get rfl rfl ?_
            refine g_top (w := nI (nx B t (nx B t (nx B t (nx B t q))))) (S27.f) ?_
            refine g_iconst (v := (-1)) (by decide +kernel : decode prog_7_method_7_code 34 = .ok (.iconst (-1), 1)) (by decide) ?_
            refine g_icmp_ne (tgt := 45) (by decide +kernel : decode prog_7_method_7_code 35 = .ok (.if_icmp .ne 10, 3)) (by decide) (fun _ => ?_) (fun q => absurd q.symm (m1_ne (by omega)))
            have eR : stK B t (if nm B t q W_cover then coK B t g q else .inl q) = .inl (nx B t (nx B t (nx B t (nx B t q)))) := by simp only [coK, cvK, stK, if_pos q3, if_pos q9, if_pos q16, if_pos q22, if_neg q27]
            exact g_vret hR (by decide +kernel : decode prog_7_method_7_code 45 = .ok (.return_, 1)) rfl ⟨rfl, by rw [eR]; exact ⟨le.1, _, _, S27⟩⟩
        · have le := S22.le
          refine g_istore_n (L' := [some (.ref 29), some (.ref 10), some (.int (nI (vl B t (nx B t q)))), some (.int (nI 0))]) (by decide +kernel : decode prog_7_method_7_code 25 = .ok (.istore_n 3, 1)) (Nat.le_of_ble_eq_true rfl) rfl ?_
          refine g_aload_n (by decide +kernel : decode prog_7_method_7_code 26 = .ok (.aload_n 0, 1)) rfl ?_
          refine g_callVV [] (by decide +kernel : decode prog_7_method_7_code 27 = .ok (.invokevirtual 84, 3)) lk_Tp_84 (p_semiW S22 le.1) rfl rfl rfl rfl (Nat.le_of_ble_eq_true rfl) (Nat.le_of_ble_eq_true rfl) (fun s27 h27 => ?_)
          obtain ⟨q27, S27⟩ := h27
          refine g_aload_n (by decide +kernel : decode prog_7_method_7_code 30 = .ok (.aload_n 0, 1)) rfl ?_
          refine g_getI (by decide +kernel : decode prog_7_method_7_code 31 = .ok (.getfield 19, 3)) fl_Tp_19.get rfl rfl ?_
          refine g_top (w := nI (nx B t (nx B t (nx B t q)))) (S27.f) ?_
          refine g_iconst (v := (-1)) (by decide +kernel : decode prog_7_method_7_code 34 = .ok (.iconst (-1), 1)) (by decide) ?_
          refine g_icmp_ne (tgt := 45) (by decide +kernel : decode prog_7_method_7_code 35 = .ok (.if_icmp .ne 10, 3)) (by decide) (fun _ => ?_) (fun q => absurd q.symm (m1_ne (by omega)))
          have eR : stK B t (if nm B t q W_cover then coK B t g q else .inl q) = .inl (nx B t (nx B t (nx B t q))) := by simp only [coK, cvK, stK, if_pos q3, if_pos q9, if_pos q16, if_neg q22]
          exact g_vret hR (by decide +kernel : decode prog_7_method_7_code 45 = .ok (.return_, 1)) rfl ⟨rfl, by rw [eR]; exact ⟨le.1, _, _, S27⟩⟩
      · have le := S16.le
        refine g_aload_n (by decide +kernel : decode prog_7_method_7_code 19 = .ok (.aload_n 0, 1)) rfl ?_
        refine g_bipush (v := nI 9) (by decide +kernel : decode prog_7_method_7_code 20 = .ok (.bipush 9, 2)) (by decide) ?_
        refine g_callVI [.int (nI 9)] (by decide +kernel : decode prog_7_method_7_code 22 = .ok (.invokevirtual 70, 3)) lk_Tp_70 (p_takeNumberW S16 le.1 (m := 9) (by decide)) rfl rfl rfl rfl (Nat.le_of_ble_eq_true rfl) (Nat.le_of_ble_eq_true rfl) (fun r22 s22 h22 => ?_)
        obtain ⟨q22, S22⟩ := h22
        refine g_istore_n (L' := [some (.ref 29), some (.ref 10), some (.int (nI (vl B t (nx B t q)))), some (.int r22)]) (by decide +kernel : decode prog_7_method_7_code 25 = .ok (.istore_n 3, 1)) (Nat.le_of_ble_eq_true rfl) rfl ?_
        refine g_aload_n (by decide +kernel : decode prog_7_method_7_code 26 = .ok (.aload_n 0, 1)) rfl ?_
        refine g_callVV [] (by decide +kernel : decode prog_7_method_7_code 27 = .ok (.invokevirtual 84, 3)) lk_Tp_84 (p_semiW S22 le.1) rfl rfl rfl rfl (Nat.le_of_ble_eq_true rfl) (Nat.le_of_ble_eq_true rfl) (fun s27 h27 => ?_)
        obtain ⟨q27, S27⟩ := h27
        refine g_aload_n (by decide +kernel : decode prog_7_method_7_code 30 = .ok (.aload_n 0, 1)) rfl ?_
        refine g_getI (by decide +kernel : decode prog_7_method_7_code 31 = .ok (.getfield 19, 3)) fl_Tp_19.get rfl rfl ?_
        refine g_top (w := nI (nx B t (nx B t q))) (S27.f) ?_
        refine g_iconst (v := (-1)) (by decide +kernel : decode prog_7_method_7_code 34 = .ok (.iconst (-1), 1)) (by decide) ?_
        refine g_icmp_ne (tgt := 45) (by decide +kernel : decode prog_7_method_7_code 35 = .ok (.if_icmp .ne 10, 3)) (by decide) (fun _ => ?_) (fun q => absurd q.symm (m1_ne (by omega)))
        have eR : stK B t (if nm B t q W_cover then coK B t g q else .inl q) = .inl (nx B t (nx B t q)) := by simp only [coK, cvK, stK, if_pos q3, if_pos q9, if_neg q16]
        exact g_vret hR (by decide +kernel : decode prog_7_method_7_code 45 = .ok (.return_, 1)) rfl ⟨rfl, by rw [eR]; exact ⟨le.1, _, _, S27⟩⟩
    · have le := S9.le
      refine g_istore_n (L' := [some (.ref 29), some (.ref 10), some (.int (nI 0)), none]) (by decide +kernel : decode prog_7_method_7_code 12 = .ok (.istore_n 2, 1)) (Nat.le_of_ble_eq_true rfl) rfl ?_
      refine g_aload_n (by decide +kernel : decode prog_7_method_7_code 13 = .ok (.aload_n 0, 1)) rfl ?_
      refine g_ldcS (i := 5) (by decide +kernel : decode prog_7_method_7_code 14 = .ok (.ldc 100, 2)) rfl (by decide) rfl ?_
      refine g_callVV [.ref (1000 + 5)] (by decide +kernel : decode prog_7_method_7_code 16 = .ok (.invokevirtual 66, 3)) lk_Tp_66 (p_takeNameW S9 le.1 (i := 5) (by decide)) rfl rfl rfl rfl (Nat.le_of_ble_eq_true rfl) (Nat.le_of_ble_eq_true rfl) (fun s16 h16 => ?_)
      obtain ⟨q16, S16⟩ := h16
      refine g_aload_n (by decide +kernel : decode prog_7_method_7_code 19 = .ok (.aload_n 0, 1)) rfl ?_
      refine g_bipush (v := nI 9) (by decide +kernel : decode prog_7_method_7_code 20 = .ok (.bipush 9, 2)) (by decide) ?_
      refine g_callVI [.int (nI 9)] (by decide +kernel : decode prog_7_method_7_code 22 = .ok (.invokevirtual 70, 3)) lk_Tp_70 (p_takeNumberW S16 le.1 (m := 9) (by decide)) rfl rfl rfl rfl (Nat.le_of_ble_eq_true rfl) (Nat.le_of_ble_eq_true rfl) (fun r22 s22 h22 => ?_)
      obtain ⟨q22, S22⟩ := h22
      refine g_istore_n (L' := [some (.ref 29), some (.ref 10), some (.int (nI 0)), some (.int r22)]) (by decide +kernel : decode prog_7_method_7_code 25 = .ok (.istore_n 3, 1)) (Nat.le_of_ble_eq_true rfl) rfl ?_
      refine g_aload_n (by decide +kernel : decode prog_7_method_7_code 26 = .ok (.aload_n 0, 1)) rfl ?_
      refine g_callVV [] (by decide +kernel : decode prog_7_method_7_code 27 = .ok (.invokevirtual 84, 3)) lk_Tp_84 (p_semiW S22 le.1) rfl rfl rfl rfl (Nat.le_of_ble_eq_true rfl) (Nat.le_of_ble_eq_true rfl) (fun s27 h27 => ?_)
      obtain ⟨q27, S27⟩ := h27
      refine g_aload_n (by decide +kernel : decode prog_7_method_7_code 30 = .ok (.aload_n 0, 1)) rfl ?_
      refine g_getI (by decide +kernel : decode prog_7_method_7_code 31 = .ok (.getfield 19, 3)) fl_Tp_19.get rfl rfl ?_
      refine g_top (w := nI (nx B t q)) (S27.f) ?_
      refine g_iconst (v := (-1)) (by decide +kernel : decode prog_7_method_7_code 34 = .ok (.iconst (-1), 1)) (by decide) ?_
      refine g_icmp_ne (tgt := 45) (by decide +kernel : decode prog_7_method_7_code 35 = .ok (.if_icmp .ne 10, 3)) (by decide) (fun _ => ?_) (fun q => absurd q.symm (m1_ne (by omega)))
      have eR : stK B t (if nm B t q W_cover then coK B t g q else .inl q) = .inl (nx B t q) := by simp only [coK, cvK, stK, if_pos q3, if_neg q9]
      exact g_vret hR (by decide +kernel : decode prog_7_method_7_code 45 = .ok (.return_, 1)) rfl ⟨rfl, by rw [eR]; exact ⟨le.1, _, _, S27⟩⟩
  · have le := S3.le
    refine g_aload_n (by decide +kernel : decode prog_7_method_7_code 6 = .ok (.aload_n 0, 1)) rfl ?_
    refine g_bipush (v := nI 11) (by decide +kernel : decode prog_7_method_7_code 7 = .ok (.bipush 11, 2)) (by decide) ?_
    refine g_callVI [.int (nI 11)] (by decide +kernel : decode prog_7_method_7_code 9 = .ok (.invokevirtual 70, 3)) lk_Tp_70 (p_takeNumberW S3 le.1 (m := 11) (by decide)) rfl rfl rfl rfl (Nat.le_of_ble_eq_true rfl) (Nat.le_of_ble_eq_true rfl) (fun r9 s9 h9 => ?_)
    obtain ⟨q9, S9⟩ := h9
    refine g_istore_n (L' := [some (.ref 29), some (.ref 10), some (.int r9), none]) (by decide +kernel : decode prog_7_method_7_code 12 = .ok (.istore_n 2, 1)) (Nat.le_of_ble_eq_true rfl) rfl ?_
    refine g_aload_n (by decide +kernel : decode prog_7_method_7_code 13 = .ok (.aload_n 0, 1)) rfl ?_
    refine g_ldcS (i := 5) (by decide +kernel : decode prog_7_method_7_code 14 = .ok (.ldc 100, 2)) rfl (by decide) rfl ?_
    refine g_callVV [.ref (1000 + 5)] (by decide +kernel : decode prog_7_method_7_code 16 = .ok (.invokevirtual 66, 3)) lk_Tp_66 (p_takeNameW S9 le.1 (i := 5) (by decide)) rfl rfl rfl rfl (Nat.le_of_ble_eq_true rfl) (Nat.le_of_ble_eq_true rfl) (fun s16 h16 => ?_)
    obtain ⟨q16, S16⟩ := h16
    refine g_aload_n (by decide +kernel : decode prog_7_method_7_code 19 = .ok (.aload_n 0, 1)) rfl ?_
    refine g_bipush (v := nI 9) (by decide +kernel : decode prog_7_method_7_code 20 = .ok (.bipush 9, 2)) (by decide) ?_
    refine g_callVI [.int (nI 9)] (by decide +kernel : decode prog_7_method_7_code 22 = .ok (.invokevirtual 70, 3)) lk_Tp_70 (p_takeNumberW S16 le.1 (m := 9) (by decide)) rfl rfl rfl rfl (Nat.le_of_ble_eq_true rfl) (Nat.le_of_ble_eq_true rfl) (fun r22 s22 h22 => ?_)
    obtain ⟨q22, S22⟩ := h22
    refine g_istore_n (L' := [some (.ref 29), some (.ref 10), some (.int r9), some (.int r22)]) (by decide +kernel : decode prog_7_method_7_code 25 = .ok (.istore_n 3, 1)) (Nat.le_of_ble_eq_true rfl) rfl ?_
    refine g_aload_n (by decide +kernel : decode prog_7_method_7_code 26 = .ok (.aload_n 0, 1)) rfl ?_
    refine g_callVV [] (by decide +kernel : decode prog_7_method_7_code 27 = .ok (.invokevirtual 84, 3)) lk_Tp_84 (p_semiW S22 le.1) rfl rfl rfl rfl (Nat.le_of_ble_eq_true rfl) (Nat.le_of_ble_eq_true rfl) (fun s27 h27 => ?_)
    obtain ⟨q27, S27⟩ := h27
    refine g_aload_n (by decide +kernel : decode prog_7_method_7_code 30 = .ok (.aload_n 0, 1)) rfl ?_
    refine g_getI (by decide +kernel : decode prog_7_method_7_code 31 = .ok (.getfield 19, 3)) fl_Tp_19.get rfl rfl ?_
    refine g_top (w := nI q) (S27.f) ?_
    refine g_iconst (v := (-1)) (by decide +kernel : decode prog_7_method_7_code 34 = .ok (.iconst (-1), 1)) (by decide) ?_
    refine g_icmp_ne (tgt := 45) (by decide +kernel : decode prog_7_method_7_code 35 = .ok (.if_icmp .ne 10, 3)) (by decide) (fun _ => ?_) (fun q => absurd q.symm (m1_ne (by omega)))
    have eR : stK B t (if nm B t q W_cover then coK B t g q else .inl q) = .inl (q) := by simp only [coK, cvK, stK, if_neg q3]
    exact g_vret hR (by decide +kernel : decode prog_7_method_7_code 45 = .ok (.return_, 1)) rfl ⟨rfl, by rw [eR]; exact ⟨le.1, _, _, S27⟩⟩
theorem g_callSR {Γ : MC} {X : CX} {σ : Store} {L : List (Option Value)} {st : List Value} {pc : Nat} {i n d : Nat} {ν : Mt} {rest : List Value} {k : Nat} (As : List Value) (hd : decode Γ.2.1.2.1 pc = .ok (.invokestatic i, 3)) (hlk : LkS Γ.2.1.1.cls i ν n) (hC : Ct Γ.1 ν d As σ (fun v σ' => v = some (.ref k) ∧ σ' = σ)) (hn : As.length = n) (hst : st = As.reverse ++ rest) (hroom : (rest.map (fun v => v.category)).sum ≤ 8) (hdep : d < Γ.2.2) (kk : G Γ X σ L (.ref k :: rest) (pc + 3)) : G Γ X σ L st pc :=
  g_callS hd hlk hn hst hroom hdep hC (by rintro v σ' ⟨rfl, rfl⟩; exact kk)
set_option maxRecDepth 20000 in
theorem n_kindName0 (σ : Store)  : Ct ΛC mt_Tp_kindName 0 [.int (nI 0)] σ (fun v σ' => v = some (.ref (1000 + 6)) ∧ σ' = σ) := by
  refine Ct.of (by decide) (Nat.le_of_ble_eq_true rfl) (fun X hR => ?_)
  show G (ΛC, mt_Tp_kindName, 0) X σ [some (.int (nI 0))] [] 0
  refine g_iload_n (by decide +kernel : decode prog_7_method_16_code 0 = .ok (.iload_n 0, 1)) rfl ?_
  refine g_tableIn (x := nI 0) (off := 35) (tgt := 36) (by decide +kernel : decode prog_7_method_16_code 1 = .ok (.tableswitch 50 0 4 #[35, 38, 41, 44, 47], 35)) (by decide) (by decide) rfl (by decide) ?_
  refine g_ldcS (i := 6) (by decide +kernel : decode prog_7_method_16_code 36 = .ok (.ldc 120, 2)) rfl (by decide) rfl ?_
  exact g_aret hR (by decide +kernel : decode prog_7_method_16_code 38 = .ok (.areturn, 1)) rfl ⟨rfl, rfl⟩
set_option maxRecDepth 20000 in
theorem n_kindName1 (σ : Store)  : Ct ΛC mt_Tp_kindName 0 [.int (nI 1)] σ (fun v σ' => v = some (.ref (1000 + 7)) ∧ σ' = σ) := by
  refine Ct.of (by decide) (Nat.le_of_ble_eq_true rfl) (fun X hR => ?_)
  show G (ΛC, mt_Tp_kindName, 0) X σ [some (.int (nI 1))] [] 0
  refine g_iload_n (by decide +kernel : decode prog_7_method_16_code 0 = .ok (.iload_n 0, 1)) rfl ?_
  refine g_tableIn (x := nI 1) (off := 38) (tgt := 39) (by decide +kernel : decode prog_7_method_16_code 1 = .ok (.tableswitch 50 0 4 #[35, 38, 41, 44, 47], 35)) (by decide) (by decide) rfl (by decide) ?_
  refine g_ldcS (i := 7) (by decide +kernel : decode prog_7_method_16_code 39 = .ok (.ldc 122, 2)) rfl (by decide) rfl ?_
  exact g_aret hR (by decide +kernel : decode prog_7_method_16_code 41 = .ok (.areturn, 1)) rfl ⟨rfl, rfl⟩
set_option maxRecDepth 20000 in
theorem n_kindName2 (σ : Store)  : Ct ΛC mt_Tp_kindName 0 [.int (nI 2)] σ (fun v σ' => v = some (.ref (1000 + 8)) ∧ σ' = σ) := by
  refine Ct.of (by decide) (Nat.le_of_ble_eq_true rfl) (fun X hR => ?_)
  show G (ΛC, mt_Tp_kindName, 0) X σ [some (.int (nI 2))] [] 0
  refine g_iload_n (by decide +kernel : decode prog_7_method_16_code 0 = .ok (.iload_n 0, 1)) rfl ?_
  refine g_tableIn (x := nI 2) (off := 41) (tgt := 42) (by decide +kernel : decode prog_7_method_16_code 1 = .ok (.tableswitch 50 0 4 #[35, 38, 41, 44, 47], 35)) (by decide) (by decide) rfl (by decide) ?_
  refine g_ldcS (i := 8) (by decide +kernel : decode prog_7_method_16_code 42 = .ok (.ldc 124, 2)) rfl (by decide) rfl ?_
  exact g_aret hR (by decide +kernel : decode prog_7_method_16_code 44 = .ok (.areturn, 1)) rfl ⟨rfl, rfl⟩
set_option maxRecDepth 20000 in
theorem n_kindName3 (σ : Store)  : Ct ΛC mt_Tp_kindName 0 [.int (nI 3)] σ (fun v σ' => v = some (.ref (1000 + 9)) ∧ σ' = σ) := by
  refine Ct.of (by decide) (Nat.le_of_ble_eq_true rfl) (fun X hR => ?_)
  show G (ΛC, mt_Tp_kindName, 0) X σ [some (.int (nI 3))] [] 0
  refine g_iload_n (by decide +kernel : decode prog_7_method_16_code 0 = .ok (.iload_n 0, 1)) rfl ?_
  refine g_tableIn (x := nI 3) (off := 44) (tgt := 45) (by decide +kernel : decode prog_7_method_16_code 1 = .ok (.tableswitch 50 0 4 #[35, 38, 41, 44, 47], 35)) (by decide) (by decide) rfl (by decide) ?_
  refine g_ldcS (i := 9) (by decide +kernel : decode prog_7_method_16_code 45 = .ok (.ldc 126, 2)) rfl (by decide) rfl ?_
  exact g_aret hR (by decide +kernel : decode prog_7_method_16_code 47 = .ok (.areturn, 1)) rfl ⟨rfl, rfl⟩
set_option maxRecDepth 20000 in
theorem n_kindName4 (σ : Store)  : Ct ΛC mt_Tp_kindName 0 [.int (nI 4)] σ (fun v σ' => v = some (.ref (1000 + 10)) ∧ σ' = σ) := by
  refine Ct.of (by decide) (Nat.le_of_ble_eq_true rfl) (fun X hR => ?_)
  show G (ΛC, mt_Tp_kindName, 0) X σ [some (.int (nI 4))] [] 0
  refine g_iload_n (by decide +kernel : decode prog_7_method_16_code 0 = .ok (.iload_n 0, 1)) rfl ?_
  refine g_tableIn (x := nI 4) (off := 47) (tgt := 48) (by decide +kernel : decode prog_7_method_16_code 1 = .ok (.tableswitch 50 0 4 #[35, 38, 41, 44, 47], 35)) (by decide) (by decide) rfl (by decide) ?_
  refine g_ldcS (i := 10) (by decide +kernel : decode prog_7_method_16_code 48 = .ok (.ldc 128, 2)) rfl (by decide) rfl ?_
  exact g_aret hR (by decide +kernel : decode prog_7_method_16_code 50 = .ok (.areturn, 1)) rfl ⟨rfl, rfl⟩
set_option maxRecDepth 20000 in
theorem n_kindName5 (σ : Store)  : Ct ΛC mt_Tp_kindName 0 [.int (nI 5)] σ (fun v σ' => v = some (.ref (1000 + 11)) ∧ σ' = σ) := by
  refine Ct.of (by decide) (Nat.le_of_ble_eq_true rfl) (fun X hR => ?_)
  show G (ΛC, mt_Tp_kindName, 0) X σ [some (.int (nI 5))] [] 0
  refine g_iload_n (by decide +kernel : decode prog_7_method_16_code 0 = .ok (.iload_n 0, 1)) rfl ?_
  refine g_tableOut (tgt := 51) (by decide +kernel : decode prog_7_method_16_code 1 = .ok (.tableswitch 50 0 4 #[35, 38, 41, 44, 47], 35)) (by decide) (by decide) ?_
  refine g_ldcS (i := 11) (by decide +kernel : decode prog_7_method_16_code 51 = .ok (.ldc 130, 2)) rfl (by decide) rfl ?_
  exact g_aret hR (by decide +kernel : decode prog_7_method_16_code 53 = .ok (.areturn, 1)) rfl ⟨rfl, rfl⟩
set_option maxRecDepth 20000 in
theorem n_lawName0 (σ : Store)  : Ct ΛC mt_Tp_lawName 0 [.int (nI 0)] σ (fun v σ' => v = some (.ref (1000 + 12)) ∧ σ' = σ) := by
  refine Ct.of (by decide) (Nat.le_of_ble_eq_true rfl) (fun X hR => ?_)
  show G (ΛC, mt_Tp_lawName, 0) X σ [some (.int (nI 0))] [] 0
  refine g_iload_n (by decide +kernel : decode prog_7_method_17_code 0 = .ok (.iload_n 0, 1)) rfl ?_
  refine g_tableIn (x := nI 0) (off := 27) (tgt := 28) (by decide +kernel : decode prog_7_method_17_code 1 = .ok (.tableswitch 36 0 2 #[27, 30, 33], 27)) (by decide) (by decide) rfl (by decide) ?_
  refine g_ldcS (i := 12) (by decide +kernel : decode prog_7_method_17_code 28 = .ok (.ldc 132, 2)) rfl (by decide) rfl ?_
  exact g_aret hR (by decide +kernel : decode prog_7_method_17_code 30 = .ok (.areturn, 1)) rfl ⟨rfl, rfl⟩
set_option maxRecDepth 20000 in
theorem n_lawName1 (σ : Store)  : Ct ΛC mt_Tp_lawName 0 [.int (nI 1)] σ (fun v σ' => v = some (.ref (1000 + 13)) ∧ σ' = σ) := by
  refine Ct.of (by decide) (Nat.le_of_ble_eq_true rfl) (fun X hR => ?_)
  show G (ΛC, mt_Tp_lawName, 0) X σ [some (.int (nI 1))] [] 0
  refine g_iload_n (by decide +kernel : decode prog_7_method_17_code 0 = .ok (.iload_n 0, 1)) rfl ?_
  refine g_tableIn (x := nI 1) (off := 30) (tgt := 31) (by decide +kernel : decode prog_7_method_17_code 1 = .ok (.tableswitch 36 0 2 #[27, 30, 33], 27)) (by decide) (by decide) rfl (by decide) ?_
  refine g_ldcS (i := 13) (by decide +kernel : decode prog_7_method_17_code 31 = .ok (.ldc 134, 2)) rfl (by decide) rfl ?_
  exact g_aret hR (by decide +kernel : decode prog_7_method_17_code 33 = .ok (.areturn, 1)) rfl ⟨rfl, rfl⟩
set_option maxRecDepth 20000 in
theorem n_lawName2 (σ : Store)  : Ct ΛC mt_Tp_lawName 0 [.int (nI 2)] σ (fun v σ' => v = some (.ref (1000 + 14)) ∧ σ' = σ) := by
  refine Ct.of (by decide) (Nat.le_of_ble_eq_true rfl) (fun X hR => ?_)
  show G (ΛC, mt_Tp_lawName, 0) X σ [some (.int (nI 2))] [] 0
  refine g_iload_n (by decide +kernel : decode prog_7_method_17_code 0 = .ok (.iload_n 0, 1)) rfl ?_
  refine g_tableIn (x := nI 2) (off := 33) (tgt := 34) (by decide +kernel : decode prog_7_method_17_code 1 = .ok (.tableswitch 36 0 2 #[27, 30, 33], 27)) (by decide) (by decide) rfl (by decide) ?_
  refine g_ldcS (i := 14) (by decide +kernel : decode prog_7_method_17_code 34 = .ok (.ldc 136, 2)) rfl (by decide) rfl ?_
  exact g_aret hR (by decide +kernel : decode prog_7_method_17_code 36 = .ok (.areturn, 1)) rfl ⟨rfl, rfl⟩
set_option maxRecDepth 20000 in
theorem n_lawName3 (σ : Store)  : Ct ΛC mt_Tp_lawName 0 [.int (nI 3)] σ (fun v σ' => v = some (.ref (1000 + 15)) ∧ σ' = σ) := by
  refine Ct.of (by decide) (Nat.le_of_ble_eq_true rfl) (fun X hR => ?_)
  show G (ΛC, mt_Tp_lawName, 0) X σ [some (.int (nI 3))] [] 0
  refine g_iload_n (by decide +kernel : decode prog_7_method_17_code 0 = .ok (.iload_n 0, 1)) rfl ?_
  refine g_tableOut (tgt := 37) (by decide +kernel : decode prog_7_method_17_code 1 = .ok (.tableswitch 36 0 2 #[27, 30, 33], 27)) (by decide) (by decide) ?_
  refine g_ldcS (i := 15) (by decide +kernel : decode prog_7_method_17_code 37 = .ok (.ldc 138, 2)) rfl (by decide) rfl ?_
  exact g_aret hR (by decide +kernel : decode prog_7_method_17_code 39 = .ok (.areturn, 1)) rfl ⟨rfl, rfl⟩
set_option maxRecDepth 20000 in
theorem r_statement {B : Nat → Nat} {t : Nat} {σ0 σ : Store} {q : Nat} {g : Row} (h : PS B t σ0 σ q (-1) g)  : Ct ΛC mt_Tp_readStatement 8 [.ref 29, .ref 10] σ (PV (RE B t σ0 (itm B t g q))) := by
  refine Ct.of (by decide) (Nat.le_of_ble_eq_true rfl) (fun X hR => ?_)
  show G (ΛC, mt_Tp_readStatement, 8) X σ [some (.ref 29), some (.ref 10), none] [] 0
  have h8 := h.n8
  have hle := h.le
  refine g_iconst (v := nI 0) (by decide +kernel : decode prog_7_method_4_code 0 = .ok (.iconst 0, 1)) (by decide) ?_
  refine g_istore_n (L' := [some (.ref 29), some (.ref 10), some (.int (nI 0))]) (by decide +kernel : decode prog_7_method_4_code 1 = .ok (.istore_n 2, 1)) (Nat.le_of_ble_eq_true rfl) rfl ?_
  refine g_iload_n (by decide +kernel : decode prog_7_method_4_code 2 = .ok (.iload_n 2, 1)) rfl ?_
  refine g_bipush (v := nI 6) (by decide +kernel : decode prog_7_method_4_code 3 = .ok (.bipush 6, 2)) (by decide) ?_
  refine g_icmp_geN (tgt := 32) (by decide +kernel : decode prog_7_method_4_code 5 = .ok (.if_icmp .ge 27, 3)) (by decide) (by decide) (by decide) (fun h => False.elim (by revert h; decide)) (fun _ => ?_)
  refine g_aload_n (by decide +kernel : decode prog_7_method_4_code 8 = .ok (.aload_n 0, 1)) rfl ?_
  refine g_iload_n (by decide +kernel : decode prog_7_method_4_code 9 = .ok (.iload_n 2, 1)) rfl ?_
  refine g_callSR (k := 1000 + 6) [.int (nI 0)] (by decide +kernel : decode prog_7_method_4_code 10 = .ok (.invokestatic 35, 3)) lk_Tp_35 (n_kindName0 _) rfl rfl (Nat.le_of_ble_eq_true rfl) (Nat.le_of_ble_eq_true rfl) ?_
  refine g_callVI [.ref (1000 + 6)] (by decide +kernel : decode prog_7_method_4_code 13 = .ok (.invokevirtual 39, 3)) lk_Tp_39 (p_isNext h (i := 6) (W := W_child) (by decide) rfl) rfl rfl rfl rfl (Nat.le_of_ble_eq_true rfl) (Nat.le_of_ble_eq_true rfl) (fun r13 s13 h13 => ?_)
  rcases h13 with ⟨e13, ⟨rfl, _, n6⟩ | ⟨rfl, n6⟩⟩
  · have e13 := e13.symm; subst e13
    refine g_if_eqN (tgt := 26) (by decide +kernel : decode prog_7_method_4_code 16 = .ok (.ifCond .eq 10, 3)) (by decide) (by decide) (fun h => False.elim (by revert h; decide)) (fun _ => ?_)
    refine g_aload_n (by decide +kernel : decode prog_7_method_4_code 19 = .ok (.aload_n 0, 1)) rfl ?_
    refine g_aload_n (by decide +kernel : decode prog_7_method_4_code 20 = .ok (.aload_n 1, 1)) rfl ?_
    refine g_iload_n (by decide +kernel : decode prog_7_method_4_code 21 = .ok (.iload_n 2, 1)) rfl ?_
    refine g_callVV [.ref 10, .int (nI 0)] (by decide +kernel : decode prog_7_method_4_code 22 = .ok (.invokevirtual 43, 3)) lk_Tp_43 (r_person h (k := 0) (by decide)) rfl rfl rfl rfl (Nat.le_of_ble_eq_true rfl) (Nat.le_of_ble_eq_true rfl) (fun s22 h22 => ?_)
    have R22 := h22
    have eI : itm B t g q = stK B t (peK B t g 0 q) := by simp only [itm, beK, kdW, lwW, if_pos n6]
    exact g_vret hR (by decide +kernel : decode prog_7_method_4_code 25 = .ok (.return_, 1)) rfl ⟨rfl, by rw [eI]; exact R22⟩
  · have e13 := e13.symm; subst e13
    replace n6 := fun z => n6 ⟨rfl, z⟩
    refine g_if_eqN (tgt := 26) (by decide +kernel : decode prog_7_method_4_code 16 = .ok (.ifCond .eq 10, 3)) (by decide) (by decide) (fun _ => ?_) (fun h => False.elim (by revert h; decide))
    refine g_iincN (n := 1) (L' := [some (.ref 29), some (.ref 10), some (.int (nI (0 + 1)))]) (by decide +kernel : decode prog_7_method_4_code 26 = .ok (.iinc 2 1, 3)) rfl (by decide) (Nat.le_of_ble_eq_true rfl) rfl ?_
    refine g_goto (tgt := 2) (by decide +kernel : decode prog_7_method_4_code 29 = .ok (.goto (-27), 3)) (by decide) ?_
    refine g_sub (L' := [some (.ref 29), some (.ref 10), some (.int (nI 1))]) ⟨rfl, rfl, rfl, trivial⟩ ?_
    refine g_iload_n (by decide +kernel : decode prog_7_method_4_code 2 = .ok (.iload_n 2, 1)) rfl ?_
    refine g_bipush (v := nI 6) (by decide +kernel : decode prog_7_method_4_code 3 = .ok (.bipush 6, 2)) (by decide) ?_
    refine g_icmp_geN (tgt := 32) (by decide +kernel : decode prog_7_method_4_code 5 = .ok (.if_icmp .ge 27, 3)) (by decide) (by decide) (by decide) (fun h => False.elim (by revert h; decide)) (fun _ => ?_)
    refine g_aload_n (by decide +kernel : decode prog_7_method_4_code 8 = .ok (.aload_n 0, 1)) rfl ?_
    refine g_iload_n (by decide +kernel : decode prog_7_method_4_code 9 = .ok (.iload_n 2, 1)) rfl ?_
    refine g_callSR (k := 1000 + 7) [.int (nI 1)] (by decide +kernel : decode prog_7_method_4_code 10 = .ok (.invokestatic 35, 3)) lk_Tp_35 (n_kindName1 _) rfl rfl (Nat.le_of_ble_eq_true rfl) (Nat.le_of_ble_eq_true rfl) ?_
    refine g_callVI [.ref (1000 + 7)] (by decide +kernel : decode prog_7_method_4_code 13 = .ok (.invokevirtual 39, 3)) lk_Tp_39 (p_isNext h (i := 7) (W := W_widower) (by decide) rfl) rfl rfl rfl rfl (Nat.le_of_ble_eq_true rfl) (Nat.le_of_ble_eq_true rfl) (fun r13 s13 h13 => ?_)
    rcases h13 with ⟨e13, ⟨rfl, _, n7⟩ | ⟨rfl, n7⟩⟩
    · have e13 := e13.symm; subst e13
      refine g_if_eqN (tgt := 26) (by decide +kernel : decode prog_7_method_4_code 16 = .ok (.ifCond .eq 10, 3)) (by decide) (by decide) (fun h => False.elim (by revert h; decide)) (fun _ => ?_)
      refine g_aload_n (by decide +kernel : decode prog_7_method_4_code 19 = .ok (.aload_n 0, 1)) rfl ?_
      refine g_aload_n (by decide +kernel : decode prog_7_method_4_code 20 = .ok (.aload_n 1, 1)) rfl ?_
      refine g_iload_n (by decide +kernel : decode prog_7_method_4_code 21 = .ok (.iload_n 2, 1)) rfl ?_
      refine g_callVV [.ref 10, .int (nI 1)] (by decide +kernel : decode prog_7_method_4_code 22 = .ok (.invokevirtual 43, 3)) lk_Tp_43 (r_person h (k := 1) (by decide)) rfl rfl rfl rfl (Nat.le_of_ble_eq_true rfl) (Nat.le_of_ble_eq_true rfl) (fun s22 h22 => ?_)
      have R22 := h22
      have eI : itm B t g q = stK B t (peK B t g 1 q) := by simp only [itm, beK, kdW, lwW, if_neg n6, if_pos n7]
      exact g_vret hR (by decide +kernel : decode prog_7_method_4_code 25 = .ok (.return_, 1)) rfl ⟨rfl, by rw [eI]; exact R22⟩
    · have e13 := e13.symm; subst e13
      replace n7 := fun z => n7 ⟨rfl, z⟩
      refine g_if_eqN (tgt := 26) (by decide +kernel : decode prog_7_method_4_code 16 = .ok (.ifCond .eq 10, 3)) (by decide) (by decide) (fun _ => ?_) (fun h => False.elim (by revert h; decide))
      refine g_iincN (n := 1) (L' := [some (.ref 29), some (.ref 10), some (.int (nI (1 + 1)))]) (by decide +kernel : decode prog_7_method_4_code 26 = .ok (.iinc 2 1, 3)) rfl (by decide) (Nat.le_of_ble_eq_true rfl) rfl ?_
      refine g_goto (tgt := 2) (by decide +kernel : decode prog_7_method_4_code 29 = .ok (.goto (-27), 3)) (by decide) ?_
      refine g_sub (L' := [some (.ref 29), some (.ref 10), some (.int (nI 2))]) ⟨rfl, rfl, rfl, trivial⟩ ?_
      refine g_iload_n (by decide +kernel : decode prog_7_method_4_code 2 = .ok (.iload_n 2, 1)) rfl ?_
      refine g_bipush (v := nI 6) (by decide +kernel : decode prog_7_method_4_code 3 = .ok (.bipush 6, 2)) (by decide) ?_
      refine g_icmp_geN (tgt := 32) (by decide +kernel : decode prog_7_method_4_code 5 = .ok (.if_icmp .ge 27, 3)) (by decide) (by decide) (by decide) (fun h => False.elim (by revert h; decide)) (fun _ => ?_)
      refine g_aload_n (by decide +kernel : decode prog_7_method_4_code 8 = .ok (.aload_n 0, 1)) rfl ?_
      refine g_iload_n (by decide +kernel : decode prog_7_method_4_code 9 = .ok (.iload_n 2, 1)) rfl ?_
      refine g_callSR (k := 1000 + 8) [.int (nI 2)] (by decide +kernel : decode prog_7_method_4_code 10 = .ok (.invokestatic 35, 3)) lk_Tp_35 (n_kindName2 _) rfl rfl (Nat.le_of_ble_eq_true rfl) (Nat.le_of_ble_eq_true rfl) ?_
      refine g_callVI [.ref (1000 + 8)] (by decide +kernel : decode prog_7_method_4_code 13 = .ok (.invokevirtual 39, 3)) lk_Tp_39 (p_isNext h (i := 8) (W := W_keeper) (by decide) rfl) rfl rfl rfl rfl (Nat.le_of_ble_eq_true rfl) (Nat.le_of_ble_eq_true rfl) (fun r13 s13 h13 => ?_)
      rcases h13 with ⟨e13, ⟨rfl, _, n8⟩ | ⟨rfl, n8⟩⟩
      · have e13 := e13.symm; subst e13
        refine g_if_eqN (tgt := 26) (by decide +kernel : decode prog_7_method_4_code 16 = .ok (.ifCond .eq 10, 3)) (by decide) (by decide) (fun h => False.elim (by revert h; decide)) (fun _ => ?_)
        refine g_aload_n (by decide +kernel : decode prog_7_method_4_code 19 = .ok (.aload_n 0, 1)) rfl ?_
        refine g_aload_n (by decide +kernel : decode prog_7_method_4_code 20 = .ok (.aload_n 1, 1)) rfl ?_
        refine g_iload_n (by decide +kernel : decode prog_7_method_4_code 21 = .ok (.iload_n 2, 1)) rfl ?_
        refine g_callVV [.ref 10, .int (nI 2)] (by decide +kernel : decode prog_7_method_4_code 22 = .ok (.invokevirtual 43, 3)) lk_Tp_43 (r_person h (k := 2) (by decide)) rfl rfl rfl rfl (Nat.le_of_ble_eq_true rfl) (Nat.le_of_ble_eq_true rfl) (fun s22 h22 => ?_)
        have R22 := h22
        have eI : itm B t g q = stK B t (peK B t g 2 q) := by simp only [itm, beK, kdW, lwW, if_neg n6, if_neg n7, if_pos n8]
        exact g_vret hR (by decide +kernel : decode prog_7_method_4_code 25 = .ok (.return_, 1)) rfl ⟨rfl, by rw [eI]; exact R22⟩
      · have e13 := e13.symm; subst e13
        replace n8 := fun z => n8 ⟨rfl, z⟩
        refine g_if_eqN (tgt := 26) (by decide +kernel : decode prog_7_method_4_code 16 = .ok (.ifCond .eq 10, 3)) (by decide) (by decide) (fun _ => ?_) (fun h => False.elim (by revert h; decide))
        refine g_iincN (n := 1) (L' := [some (.ref 29), some (.ref 10), some (.int (nI (2 + 1)))]) (by decide +kernel : decode prog_7_method_4_code 26 = .ok (.iinc 2 1, 3)) rfl (by decide) (Nat.le_of_ble_eq_true rfl) rfl ?_
        refine g_goto (tgt := 2) (by decide +kernel : decode prog_7_method_4_code 29 = .ok (.goto (-27), 3)) (by decide) ?_
        refine g_sub (L' := [some (.ref 29), some (.ref 10), some (.int (nI 3))]) ⟨rfl, rfl, rfl, trivial⟩ ?_
        refine g_iload_n (by decide +kernel : decode prog_7_method_4_code 2 = .ok (.iload_n 2, 1)) rfl ?_
        refine g_bipush (v := nI 6) (by decide +kernel : decode prog_7_method_4_code 3 = .ok (.bipush 6, 2)) (by decide) ?_
        refine g_icmp_geN (tgt := 32) (by decide +kernel : decode prog_7_method_4_code 5 = .ok (.if_icmp .ge 27, 3)) (by decide) (by decide) (by decide) (fun h => False.elim (by revert h; decide)) (fun _ => ?_)
        refine g_aload_n (by decide +kernel : decode prog_7_method_4_code 8 = .ok (.aload_n 0, 1)) rfl ?_
        refine g_iload_n (by decide +kernel : decode prog_7_method_4_code 9 = .ok (.iload_n 2, 1)) rfl ?_
        refine g_callSR (k := 1000 + 9) [.int (nI 3)] (by decide +kernel : decode prog_7_method_4_code 10 = .ok (.invokestatic 35, 3)) lk_Tp_35 (n_kindName3 _) rfl rfl (Nat.le_of_ble_eq_true rfl) (Nat.le_of_ble_eq_true rfl) ?_
        refine g_callVI [.ref (1000 + 9)] (by decide +kernel : decode prog_7_method_4_code 13 = .ok (.invokevirtual 39, 3)) lk_Tp_39 (p_isNext h (i := 9) (W := W_grandson) (by decide) rfl) rfl rfl rfl rfl (Nat.le_of_ble_eq_true rfl) (Nat.le_of_ble_eq_true rfl) (fun r13 s13 h13 => ?_)
        rcases h13 with ⟨e13, ⟨rfl, _, n9⟩ | ⟨rfl, n9⟩⟩
        · have e13 := e13.symm; subst e13
          refine g_if_eqN (tgt := 26) (by decide +kernel : decode prog_7_method_4_code 16 = .ok (.ifCond .eq 10, 3)) (by decide) (by decide) (fun h => False.elim (by revert h; decide)) (fun _ => ?_)
          refine g_aload_n (by decide +kernel : decode prog_7_method_4_code 19 = .ok (.aload_n 0, 1)) rfl ?_
          refine g_aload_n (by decide +kernel : decode prog_7_method_4_code 20 = .ok (.aload_n 1, 1)) rfl ?_
          refine g_iload_n (by decide +kernel : decode prog_7_method_4_code 21 = .ok (.iload_n 2, 1)) rfl ?_
          refine g_callVV [.ref 10, .int (nI 3)] (by decide +kernel : decode prog_7_method_4_code 22 = .ok (.invokevirtual 43, 3)) lk_Tp_43 (r_person h (k := 3) (by decide)) rfl rfl rfl rfl (Nat.le_of_ble_eq_true rfl) (Nat.le_of_ble_eq_true rfl) (fun s22 h22 => ?_)
          have R22 := h22
          have eI : itm B t g q = stK B t (peK B t g 3 q) := by simp only [itm, beK, kdW, lwW, if_neg n6, if_neg n7, if_neg n8, if_pos n9]
          exact g_vret hR (by decide +kernel : decode prog_7_method_4_code 25 = .ok (.return_, 1)) rfl ⟨rfl, by rw [eI]; exact R22⟩
        · have e13 := e13.symm; subst e13
          replace n9 := fun z => n9 ⟨rfl, z⟩
          refine g_if_eqN (tgt := 26) (by decide +kernel : decode prog_7_method_4_code 16 = .ok (.ifCond .eq 10, 3)) (by decide) (by decide) (fun _ => ?_) (fun h => False.elim (by revert h; decide))
          refine g_iincN (n := 1) (L' := [some (.ref 29), some (.ref 10), some (.int (nI (3 + 1)))]) (by decide +kernel : decode prog_7_method_4_code 26 = .ok (.iinc 2 1, 3)) rfl (by decide) (Nat.le_of_ble_eq_true rfl) rfl ?_
          refine g_goto (tgt := 2) (by decide +kernel : decode prog_7_method_4_code 29 = .ok (.goto (-27), 3)) (by decide) ?_
          refine g_sub (L' := [some (.ref 29), some (.ref 10), some (.int (nI 4))]) ⟨rfl, rfl, rfl, trivial⟩ ?_
          refine g_iload_n (by decide +kernel : decode prog_7_method_4_code 2 = .ok (.iload_n 2, 1)) rfl ?_
          refine g_bipush (v := nI 6) (by decide +kernel : decode prog_7_method_4_code 3 = .ok (.bipush 6, 2)) (by decide) ?_
          refine g_icmp_geN (tgt := 32) (by decide +kernel : decode prog_7_method_4_code 5 = .ok (.if_icmp .ge 27, 3)) (by decide) (by decide) (by decide) (fun h => False.elim (by revert h; decide)) (fun _ => ?_)
          refine g_aload_n (by decide +kernel : decode prog_7_method_4_code 8 = .ok (.aload_n 0, 1)) rfl ?_
          refine g_iload_n (by decide +kernel : decode prog_7_method_4_code 9 = .ok (.iload_n 2, 1)) rfl ?_
          refine g_callSR (k := 1000 + 10) [.int (nI 4)] (by decide +kernel : decode prog_7_method_4_code 10 = .ok (.invokestatic 35, 3)) lk_Tp_35 (n_kindName4 _) rfl rfl (Nat.le_of_ble_eq_true rfl) (Nat.le_of_ble_eq_true rfl) ?_
          refine g_callVI [.ref (1000 + 10)] (by decide +kernel : decode prog_7_method_4_code 13 = .ok (.invokevirtual 39, 3)) lk_Tp_39 (p_isNext h (i := 10) (W := W_scholar) (by decide) rfl) rfl rfl rfl rfl (Nat.le_of_ble_eq_true rfl) (Nat.le_of_ble_eq_true rfl) (fun r13 s13 h13 => ?_)
          rcases h13 with ⟨e13, ⟨rfl, _, n10⟩ | ⟨rfl, n10⟩⟩
          · have e13 := e13.symm; subst e13
            refine g_if_eqN (tgt := 26) (by decide +kernel : decode prog_7_method_4_code 16 = .ok (.ifCond .eq 10, 3)) (by decide) (by decide) (fun h => False.elim (by revert h; decide)) (fun _ => ?_)
            refine g_aload_n (by decide +kernel : decode prog_7_method_4_code 19 = .ok (.aload_n 0, 1)) rfl ?_
            refine g_aload_n (by decide +kernel : decode prog_7_method_4_code 20 = .ok (.aload_n 1, 1)) rfl ?_
            refine g_iload_n (by decide +kernel : decode prog_7_method_4_code 21 = .ok (.iload_n 2, 1)) rfl ?_
            refine g_callVV [.ref 10, .int (nI 4)] (by decide +kernel : decode prog_7_method_4_code 22 = .ok (.invokevirtual 43, 3)) lk_Tp_43 (r_person h (k := 4) (by decide)) rfl rfl rfl rfl (Nat.le_of_ble_eq_true rfl) (Nat.le_of_ble_eq_true rfl) (fun s22 h22 => ?_)
            have R22 := h22
            have eI : itm B t g q = stK B t (peK B t g 4 q) := by simp only [itm, beK, kdW, lwW, if_neg n6, if_neg n7, if_neg n8, if_neg n9, if_pos n10]
            exact g_vret hR (by decide +kernel : decode prog_7_method_4_code 25 = .ok (.return_, 1)) rfl ⟨rfl, by rw [eI]; exact R22⟩
          · have e13 := e13.symm; subst e13
            replace n10 := fun z => n10 ⟨rfl, z⟩
            refine g_if_eqN (tgt := 26) (by decide +kernel : decode prog_7_method_4_code 16 = .ok (.ifCond .eq 10, 3)) (by decide) (by decide) (fun _ => ?_) (fun h => False.elim (by revert h; decide))
            refine g_iincN (n := 1) (L' := [some (.ref 29), some (.ref 10), some (.int (nI (4 + 1)))]) (by decide +kernel : decode prog_7_method_4_code 26 = .ok (.iinc 2 1, 3)) rfl (by decide) (Nat.le_of_ble_eq_true rfl) rfl ?_
            refine g_goto (tgt := 2) (by decide +kernel : decode prog_7_method_4_code 29 = .ok (.goto (-27), 3)) (by decide) ?_
            refine g_sub (L' := [some (.ref 29), some (.ref 10), some (.int (nI 5))]) ⟨rfl, rfl, rfl, trivial⟩ ?_
            refine g_iload_n (by decide +kernel : decode prog_7_method_4_code 2 = .ok (.iload_n 2, 1)) rfl ?_
            refine g_bipush (v := nI 6) (by decide +kernel : decode prog_7_method_4_code 3 = .ok (.bipush 6, 2)) (by decide) ?_
            refine g_icmp_geN (tgt := 32) (by decide +kernel : decode prog_7_method_4_code 5 = .ok (.if_icmp .ge 27, 3)) (by decide) (by decide) (by decide) (fun h => False.elim (by revert h; decide)) (fun _ => ?_)
            refine g_aload_n (by decide +kernel : decode prog_7_method_4_code 8 = .ok (.aload_n 0, 1)) rfl ?_
            refine g_iload_n (by decide +kernel : decode prog_7_method_4_code 9 = .ok (.iload_n 2, 1)) rfl ?_
            refine g_callSR (k := 1000 + 11) [.int (nI 5)] (by decide +kernel : decode prog_7_method_4_code 10 = .ok (.invokestatic 35, 3)) lk_Tp_35 (n_kindName5 _) rfl rfl (Nat.le_of_ble_eq_true rfl) (Nat.le_of_ble_eq_true rfl) ?_
            refine g_callVI [.ref (1000 + 11)] (by decide +kernel : decode prog_7_method_4_code 13 = .ok (.invokevirtual 39, 3)) lk_Tp_39 (p_isNext h (i := 11) (W := W_lady) (by decide) rfl) rfl rfl rfl rfl (Nat.le_of_ble_eq_true rfl) (Nat.le_of_ble_eq_true rfl) (fun r13 s13 h13 => ?_)
            rcases h13 with ⟨e13, ⟨rfl, _, n11⟩ | ⟨rfl, n11⟩⟩
            · have e13 := e13.symm; subst e13
              refine g_if_eqN (tgt := 26) (by decide +kernel : decode prog_7_method_4_code 16 = .ok (.ifCond .eq 10, 3)) (by decide) (by decide) (fun h => False.elim (by revert h; decide)) (fun _ => ?_)
              refine g_aload_n (by decide +kernel : decode prog_7_method_4_code 19 = .ok (.aload_n 0, 1)) rfl ?_
              refine g_aload_n (by decide +kernel : decode prog_7_method_4_code 20 = .ok (.aload_n 1, 1)) rfl ?_
              refine g_iload_n (by decide +kernel : decode prog_7_method_4_code 21 = .ok (.iload_n 2, 1)) rfl ?_
              refine g_callVV [.ref 10, .int (nI 5)] (by decide +kernel : decode prog_7_method_4_code 22 = .ok (.invokevirtual 43, 3)) lk_Tp_43 (r_person h (k := 5) (by decide)) rfl rfl rfl rfl (Nat.le_of_ble_eq_true rfl) (Nat.le_of_ble_eq_true rfl) (fun s22 h22 => ?_)
              have R22 := h22
              have eI : itm B t g q = stK B t (peK B t g 5 q) := by simp only [itm, beK, kdW, lwW, if_neg n6, if_neg n7, if_neg n8, if_neg n9, if_neg n10, if_pos n11]
              exact g_vret hR (by decide +kernel : decode prog_7_method_4_code 25 = .ok (.return_, 1)) rfl ⟨rfl, by rw [eI]; exact R22⟩
            · have e13 := e13.symm; subst e13
              replace n11 := fun z => n11 ⟨rfl, z⟩
              refine g_if_eqN (tgt := 26) (by decide +kernel : decode prog_7_method_4_code 16 = .ok (.ifCond .eq 10, 3)) (by decide) (by decide) (fun _ => ?_) (fun h => False.elim (by revert h; decide))
              refine g_iincN (n := 1) (L' := [some (.ref 29), some (.ref 10), some (.int (nI (5 + 1)))]) (by decide +kernel : decode prog_7_method_4_code 26 = .ok (.iinc 2 1, 3)) rfl (by decide) (Nat.le_of_ble_eq_true rfl) rfl ?_
              refine g_goto (tgt := 2) (by decide +kernel : decode prog_7_method_4_code 29 = .ok (.goto (-27), 3)) (by decide) ?_
              refine g_sub (L' := [some (.ref 29), some (.ref 10), some (.int (nI 6))]) ⟨rfl, rfl, rfl, trivial⟩ ?_
              refine g_iload_n (by decide +kernel : decode prog_7_method_4_code 2 = .ok (.iload_n 2, 1)) rfl ?_
              refine g_bipush (v := nI 6) (by decide +kernel : decode prog_7_method_4_code 3 = .ok (.bipush 6, 2)) (by decide) ?_
              refine g_icmp_geN (tgt := 32) (by decide +kernel : decode prog_7_method_4_code 5 = .ok (.if_icmp .ge 27, 3)) (by decide) (by decide) (by decide) (fun _ => ?_) (fun h => False.elim (by revert h; decide))
              refine g_iconst (v := nI 0) (by decide +kernel : decode prog_7_method_4_code 32 = .ok (.iconst 0, 1)) (by decide) ?_
              refine g_istore_n (L' := [some (.ref 29), some (.ref 10), some (.int (nI 0))]) (by decide +kernel : decode prog_7_method_4_code 33 = .ok (.istore_n 2, 1)) (Nat.le_of_ble_eq_true rfl) rfl ?_
              refine g_iload_n (by decide +kernel : decode prog_7_method_4_code 34 = .ok (.iload_n 2, 1)) rfl ?_
              refine g_iconst (v := nI 4) (by decide +kernel : decode prog_7_method_4_code 35 = .ok (.iconst 4, 1)) (by decide) ?_
              refine g_icmp_geN (tgt := 63) (by decide +kernel : decode prog_7_method_4_code 36 = .ok (.if_icmp .ge 27, 3)) (by decide) (by decide) (by decide) (fun h => False.elim (by revert h; decide)) (fun _ => ?_)
              refine g_aload_n (by decide +kernel : decode prog_7_method_4_code 39 = .ok (.aload_n 0, 1)) rfl ?_
              refine g_iload_n (by decide +kernel : decode prog_7_method_4_code 40 = .ok (.iload_n 2, 1)) rfl ?_
              refine g_callSR (k := 1000 + 12) [.int (nI 0)] (by decide +kernel : decode prog_7_method_4_code 41 = .ok (.invokestatic 47, 3)) lk_Tp_47 (n_lawName0 _) rfl rfl (Nat.le_of_ble_eq_true rfl) (Nat.le_of_ble_eq_true rfl) ?_
              refine g_callVI [.ref (1000 + 12)] (by decide +kernel : decode prog_7_method_4_code 44 = .ok (.invokevirtual 39, 3)) lk_Tp_39 (p_isNext h (i := 12) (W := W_out) (by decide) rfl) rfl rfl rfl rfl (Nat.le_of_ble_eq_true rfl) (Nat.le_of_ble_eq_true rfl) (fun r44 s44 h44 => ?_)
              rcases h44 with ⟨e44, ⟨rfl, _, n12⟩ | ⟨rfl, n12⟩⟩
              · have e44 := e44.symm; subst e44
                refine g_if_eqN (tgt := 57) (by decide +kernel : decode prog_7_method_4_code 47 = .ok (.ifCond .eq 10, 3)) (by decide) (by decide) (fun h => False.elim (by revert h; decide)) (fun _ => ?_)
                refine g_aload_n (by decide +kernel : decode prog_7_method_4_code 50 = .ok (.aload_n 0, 1)) rfl ?_
                refine g_aload_n (by decide +kernel : decode prog_7_method_4_code 51 = .ok (.aload_n 1, 1)) rfl ?_
                refine g_iload_n (by decide +kernel : decode prog_7_method_4_code 52 = .ok (.iload_n 2, 1)) rfl ?_
                refine g_callVV [.ref 10, .int (nI 0)] (by decide +kernel : decode prog_7_method_4_code 53 = .ok (.invokevirtual 50, 3)) lk_Tp_50 (r_law h (i := 0) (by decide)) rfl rfl rfl rfl (Nat.le_of_ble_eq_true rfl) (Nat.le_of_ble_eq_true rfl) (fun s53 h53 => ?_)
                have R53 := h53
                have eI : itm B t g q = stK B t (laK B t g 0 q) := by simp only [itm, beK, kdW, lwW, if_neg n6, if_neg n7, if_neg n8, if_neg n9, if_neg n10, if_neg n11, if_pos n12]
                exact g_vret hR (by decide +kernel : decode prog_7_method_4_code 56 = .ok (.return_, 1)) rfl ⟨rfl, by rw [eI]; exact R53⟩
              · have e44 := e44.symm; subst e44
                replace n12 := fun z => n12 ⟨rfl, z⟩
                refine g_if_eqN (tgt := 57) (by decide +kernel : decode prog_7_method_4_code 47 = .ok (.ifCond .eq 10, 3)) (by decide) (by decide) (fun _ => ?_) (fun h => False.elim (by revert h; decide))
                refine g_iincN (n := 1) (L' := [some (.ref 29), some (.ref 10), some (.int (nI (0 + 1)))]) (by decide +kernel : decode prog_7_method_4_code 57 = .ok (.iinc 2 1, 3)) rfl (by decide) (Nat.le_of_ble_eq_true rfl) rfl ?_
                refine g_goto (tgt := 34) (by decide +kernel : decode prog_7_method_4_code 60 = .ok (.goto (-26), 3)) (by decide) ?_
                refine g_sub (L' := [some (.ref 29), some (.ref 10), some (.int (nI 1))]) ⟨rfl, rfl, rfl, trivial⟩ ?_
                refine g_iload_n (by decide +kernel : decode prog_7_method_4_code 34 = .ok (.iload_n 2, 1)) rfl ?_
                refine g_iconst (v := nI 4) (by decide +kernel : decode prog_7_method_4_code 35 = .ok (.iconst 4, 1)) (by decide) ?_
                refine g_icmp_geN (tgt := 63) (by decide +kernel : decode prog_7_method_4_code 36 = .ok (.if_icmp .ge 27, 3)) (by decide) (by decide) (by decide) (fun h => False.elim (by revert h; decide)) (fun _ => ?_)
                refine g_aload_n (by decide +kernel : decode prog_7_method_4_code 39 = .ok (.aload_n 0, 1)) rfl ?_
                refine g_iload_n (by decide +kernel : decode prog_7_method_4_code 40 = .ok (.iload_n 2, 1)) rfl ?_
                refine g_callSR (k := 1000 + 13) [.int (nI 1)] (by decide +kernel : decode prog_7_method_4_code 41 = .ok (.invokestatic 47, 3)) lk_Tp_47 (n_lawName1 _) rfl rfl (Nat.le_of_ble_eq_true rfl) (Nat.le_of_ble_eq_true rfl) ?_
                refine g_callVI [.ref (1000 + 13)] (by decide +kernel : decode prog_7_method_4_code 44 = .ok (.invokevirtual 39, 3)) lk_Tp_39 (p_isNext h (i := 13) (W := W_dark) (by decide) rfl) rfl rfl rfl rfl (Nat.le_of_ble_eq_true rfl) (Nat.le_of_ble_eq_true rfl) (fun r44 s44 h44 => ?_)
                rcases h44 with ⟨e44, ⟨rfl, _, n13⟩ | ⟨rfl, n13⟩⟩
                · have e44 := e44.symm; subst e44
                  refine g_if_eqN (tgt := 57) (by decide +kernel : decode prog_7_method_4_code 47 = .ok (.ifCond .eq 10, 3)) (by decide) (by decide) (fun h => False.elim (by revert h; decide)) (fun _ => ?_)
                  refine g_aload_n (by decide +kernel : decode prog_7_method_4_code 50 = .ok (.aload_n 0, 1)) rfl ?_
                  refine g_aload_n (by decide +kernel : decode prog_7_method_4_code 51 = .ok (.aload_n 1, 1)) rfl ?_
                  refine g_iload_n (by decide +kernel : decode prog_7_method_4_code 52 = .ok (.iload_n 2, 1)) rfl ?_
                  refine g_callVV [.ref 10, .int (nI 1)] (by decide +kernel : decode prog_7_method_4_code 53 = .ok (.invokevirtual 50, 3)) lk_Tp_50 (r_law h (i := 1) (by decide)) rfl rfl rfl rfl (Nat.le_of_ble_eq_true rfl) (Nat.le_of_ble_eq_true rfl) (fun s53 h53 => ?_)
                  have R53 := h53
                  have eI : itm B t g q = stK B t (laK B t g 1 q) := by simp only [itm, beK, kdW, lwW, if_neg n6, if_neg n7, if_neg n8, if_neg n9, if_neg n10, if_neg n11, if_neg n12, if_pos n13]
                  exact g_vret hR (by decide +kernel : decode prog_7_method_4_code 56 = .ok (.return_, 1)) rfl ⟨rfl, by rw [eI]; exact R53⟩
                · have e44 := e44.symm; subst e44
                  replace n13 := fun z => n13 ⟨rfl, z⟩
                  refine g_if_eqN (tgt := 57) (by decide +kernel : decode prog_7_method_4_code 47 = .ok (.ifCond .eq 10, 3)) (by decide) (by decide) (fun _ => ?_) (fun h => False.elim (by revert h; decide))
                  refine g_iincN (n := 1) (L' := [some (.ref 29), some (.ref 10), some (.int (nI (1 + 1)))]) (by decide +kernel : decode prog_7_method_4_code 57 = .ok (.iinc 2 1, 3)) rfl (by decide) (Nat.le_of_ble_eq_true rfl) rfl ?_
                  refine g_goto (tgt := 34) (by decide +kernel : decode prog_7_method_4_code 60 = .ok (.goto (-26), 3)) (by decide) ?_
                  refine g_sub (L' := [some (.ref 29), some (.ref 10), some (.int (nI 2))]) ⟨rfl, rfl, rfl, trivial⟩ ?_
                  refine g_iload_n (by decide +kernel : decode prog_7_method_4_code 34 = .ok (.iload_n 2, 1)) rfl ?_
                  refine g_iconst (v := nI 4) (by decide +kernel : decode prog_7_method_4_code 35 = .ok (.iconst 4, 1)) (by decide) ?_
                  refine g_icmp_geN (tgt := 63) (by decide +kernel : decode prog_7_method_4_code 36 = .ok (.if_icmp .ge 27, 3)) (by decide) (by decide) (by decide) (fun h => False.elim (by revert h; decide)) (fun _ => ?_)
                  refine g_aload_n (by decide +kernel : decode prog_7_method_4_code 39 = .ok (.aload_n 0, 1)) rfl ?_
                  refine g_iload_n (by decide +kernel : decode prog_7_method_4_code 40 = .ok (.iload_n 2, 1)) rfl ?_
                  refine g_callSR (k := 1000 + 14) [.int (nI 2)] (by decide +kernel : decode prog_7_method_4_code 41 = .ok (.invokestatic 47, 3)) lk_Tp_47 (n_lawName2 _) rfl rfl (Nat.le_of_ble_eq_true rfl) (Nat.le_of_ble_eq_true rfl) ?_
                  refine g_callVI [.ref (1000 + 14)] (by decide +kernel : decode prog_7_method_4_code 44 = .ok (.invokevirtual 39, 3)) lk_Tp_39 (p_isNext h (i := 14) (W := W_lamp) (by decide) rfl) rfl rfl rfl rfl (Nat.le_of_ble_eq_true rfl) (Nat.le_of_ble_eq_true rfl) (fun r44 s44 h44 => ?_)
                  rcases h44 with ⟨e44, ⟨rfl, _, n14⟩ | ⟨rfl, n14⟩⟩
                  · have e44 := e44.symm; subst e44
                    refine g_if_eqN (tgt := 57) (by decide +kernel : decode prog_7_method_4_code 47 = .ok (.ifCond .eq 10, 3)) (by decide) (by decide) (fun h => False.elim (by revert h; decide)) (fun _ => ?_)
                    refine g_aload_n (by decide +kernel : decode prog_7_method_4_code 50 = .ok (.aload_n 0, 1)) rfl ?_
                    refine g_aload_n (by decide +kernel : decode prog_7_method_4_code 51 = .ok (.aload_n 1, 1)) rfl ?_
                    refine g_iload_n (by decide +kernel : decode prog_7_method_4_code 52 = .ok (.iload_n 2, 1)) rfl ?_
                    refine g_callVV [.ref 10, .int (nI 2)] (by decide +kernel : decode prog_7_method_4_code 53 = .ok (.invokevirtual 50, 3)) lk_Tp_50 (r_law h (i := 2) (by decide)) rfl rfl rfl rfl (Nat.le_of_ble_eq_true rfl) (Nat.le_of_ble_eq_true rfl) (fun s53 h53 => ?_)
                    have R53 := h53
                    have eI : itm B t g q = stK B t (laK B t g 2 q) := by simp only [itm, beK, kdW, lwW, if_neg n6, if_neg n7, if_neg n8, if_neg n9, if_neg n10, if_neg n11, if_neg n12, if_neg n13, if_pos n14]
                    exact g_vret hR (by decide +kernel : decode prog_7_method_4_code 56 = .ok (.return_, 1)) rfl ⟨rfl, by rw [eI]; exact R53⟩
                  · have e44 := e44.symm; subst e44
                    replace n14 := fun z => n14 ⟨rfl, z⟩
                    refine g_if_eqN (tgt := 57) (by decide +kernel : decode prog_7_method_4_code 47 = .ok (.ifCond .eq 10, 3)) (by decide) (by decide) (fun _ => ?_) (fun h => False.elim (by revert h; decide))
                    refine g_iincN (n := 1) (L' := [some (.ref 29), some (.ref 10), some (.int (nI (2 + 1)))]) (by decide +kernel : decode prog_7_method_4_code 57 = .ok (.iinc 2 1, 3)) rfl (by decide) (Nat.le_of_ble_eq_true rfl) rfl ?_
                    refine g_goto (tgt := 34) (by decide +kernel : decode prog_7_method_4_code 60 = .ok (.goto (-26), 3)) (by decide) ?_
                    refine g_sub (L' := [some (.ref 29), some (.ref 10), some (.int (nI 3))]) ⟨rfl, rfl, rfl, trivial⟩ ?_
                    refine g_iload_n (by decide +kernel : decode prog_7_method_4_code 34 = .ok (.iload_n 2, 1)) rfl ?_
                    refine g_iconst (v := nI 4) (by decide +kernel : decode prog_7_method_4_code 35 = .ok (.iconst 4, 1)) (by decide) ?_
                    refine g_icmp_geN (tgt := 63) (by decide +kernel : decode prog_7_method_4_code 36 = .ok (.if_icmp .ge 27, 3)) (by decide) (by decide) (by decide) (fun h => False.elim (by revert h; decide)) (fun _ => ?_)
                    refine g_aload_n (by decide +kernel : decode prog_7_method_4_code 39 = .ok (.aload_n 0, 1)) rfl ?_
                    refine g_iload_n (by decide +kernel : decode prog_7_method_4_code 40 = .ok (.iload_n 2, 1)) rfl ?_
                    refine g_callSR (k := 1000 + 15) [.int (nI 3)] (by decide +kernel : decode prog_7_method_4_code 41 = .ok (.invokestatic 47, 3)) lk_Tp_47 (n_lawName3 _) rfl rfl (Nat.le_of_ble_eq_true rfl) (Nat.le_of_ble_eq_true rfl) ?_
                    refine g_callVI [.ref (1000 + 15)] (by decide +kernel : decode prog_7_method_4_code 44 = .ok (.invokevirtual 39, 3)) lk_Tp_39 (p_isNext h (i := 15) (W := W_peep) (by decide) rfl) rfl rfl rfl rfl (Nat.le_of_ble_eq_true rfl) (Nat.le_of_ble_eq_true rfl) (fun r44 s44 h44 => ?_)
                    rcases h44 with ⟨e44, ⟨rfl, _, n15⟩ | ⟨rfl, n15⟩⟩
                    · have e44 := e44.symm; subst e44
                      refine g_if_eqN (tgt := 57) (by decide +kernel : decode prog_7_method_4_code 47 = .ok (.ifCond .eq 10, 3)) (by decide) (by decide) (fun h => False.elim (by revert h; decide)) (fun _ => ?_)
                      refine g_aload_n (by decide +kernel : decode prog_7_method_4_code 50 = .ok (.aload_n 0, 1)) rfl ?_
                      refine g_aload_n (by decide +kernel : decode prog_7_method_4_code 51 = .ok (.aload_n 1, 1)) rfl ?_
                      refine g_iload_n (by decide +kernel : decode prog_7_method_4_code 52 = .ok (.iload_n 2, 1)) rfl ?_
                      refine g_callVV [.ref 10, .int (nI 3)] (by decide +kernel : decode prog_7_method_4_code 53 = .ok (.invokevirtual 50, 3)) lk_Tp_50 (r_law h (i := 3) (by decide)) rfl rfl rfl rfl (Nat.le_of_ble_eq_true rfl) (Nat.le_of_ble_eq_true rfl) (fun s53 h53 => ?_)
                      have R53 := h53
                      have eI : itm B t g q = stK B t (laK B t g 3 q) := by simp only [itm, beK, kdW, lwW, if_neg n6, if_neg n7, if_neg n8, if_neg n9, if_neg n10, if_neg n11, if_neg n12, if_neg n13, if_neg n14, if_pos n15]
                      exact g_vret hR (by decide +kernel : decode prog_7_method_4_code 56 = .ok (.return_, 1)) rfl ⟨rfl, by rw [eI]; exact R53⟩
                    · have e44 := e44.symm; subst e44
                      replace n15 := fun z => n15 ⟨rfl, z⟩
                      refine g_if_eqN (tgt := 57) (by decide +kernel : decode prog_7_method_4_code 47 = .ok (.ifCond .eq 10, 3)) (by decide) (by decide) (fun _ => ?_) (fun h => False.elim (by revert h; decide))
                      refine g_iincN (n := 1) (L' := [some (.ref 29), some (.ref 10), some (.int (nI (3 + 1)))]) (by decide +kernel : decode prog_7_method_4_code 57 = .ok (.iinc 2 1, 3)) rfl (by decide) (Nat.le_of_ble_eq_true rfl) rfl ?_
                      refine g_goto (tgt := 34) (by decide +kernel : decode prog_7_method_4_code 60 = .ok (.goto (-26), 3)) (by decide) ?_
                      refine g_sub (L' := [some (.ref 29), some (.ref 10), some (.int (nI 4))]) ⟨rfl, rfl, rfl, trivial⟩ ?_
                      refine g_iload_n (by decide +kernel : decode prog_7_method_4_code 34 = .ok (.iload_n 2, 1)) rfl ?_
                      refine g_iconst (v := nI 4) (by decide +kernel : decode prog_7_method_4_code 35 = .ok (.iconst 4, 1)) (by decide) ?_
                      refine g_icmp_geN (tgt := 63) (by decide +kernel : decode prog_7_method_4_code 36 = .ok (.if_icmp .ge 27, 3)) (by decide) (by decide) (by decide) (fun _ => ?_) (fun h => False.elim (by revert h; decide))
                      refine g_aload_n (by decide +kernel : decode prog_7_method_4_code 63 = .ok (.aload_n 0, 1)) rfl ?_
                      refine g_aload_n (by decide +kernel : decode prog_7_method_4_code 64 = .ok (.aload_n 1, 1)) rfl ?_
                      refine g_callVV [.ref 10] (by decide +kernel : decode prog_7_method_4_code 65 = .ok (.invokevirtual 53, 3)) lk_Tp_53 (r_cover h) rfl rfl rfl rfl (Nat.le_of_ble_eq_true rfl) (Nat.le_of_ble_eq_true rfl) (fun s65 h65 => ?_)
                      have R65 := h65
                      have eI : itm B t g q = stK B t (if nm B t q W_cover then coK B t g q else .inl q) := by simp only [itm, beK, kdW, lwW, if_neg n6, if_neg n7, if_neg n8, if_neg n9, if_neg n10, if_neg n11, if_neg n12, if_neg n13, if_neg n14, if_neg n15]
                      exact g_vret hR (by decide +kernel : decode prog_7_method_4_code 68 = .ok (.return_, 1)) rfl ⟨rfl, by rw [eI]; exact R65⟩
def RQ (B : Nat → Nat) (t : Nat) (σ0 : Store) (r : Nat ⊕ Row) : Int32 → Store → Prop := fun v σ' => match r with
  | .inl e => v = nI e ∧ e ≤ t ∧ ∃ q g, PS B t σ0 σ' q (nI e) g
  | .inr g => v = -1 ∧ Inv g ∧ ∃ q, PS B t σ0 σ' q (-1) g
set_option maxRecDepth 20000 in
theorem i_bad {X : CX} {B : Nat → Nat} {t : Nat} {σ0 σ : Store} {q : Nat} {g : Row} {e k : Nat} (h : PS B t σ0 σ q (nI e) g) (le : e ≤ t) (hk : k ≤ 1000) (hR : Rt (ΛC, mt_Tp_readInto, 9) (PI (RQ B t σ0 (.inl e))) X) : G (ΛC, mt_Tp_readInto, 9) X σ [some (.ref 29), some (.ref 10), some (.int (nI k))] [] 16 := by
  have hle := h.le
  have hk3 := kd_le B t q
  refine g_iload_n (by decide +kernel : decode prog_7_method_3_code 16 = .ok (.iload_n 2, 1)) rfl ?_
  refine g_sipush (v := nI 200) (by decide +kernel : decode prog_7_method_3_code 17 = .ok (.sipush 200, 3)) (by decide) ?_
  refine g_icmp_gtN (tgt := 49) (by decide +kernel : decode prog_7_method_3_code 20 = .ok (.if_icmp .gt 29, 3)) (by decide) (by omega) (by decide) (fun h20 => ?_) (fun h20 => ?_)
  · refine g_aload_n (by decide +kernel : decode prog_7_method_3_code 49 = .ok (.aload_n 0, 1)) rfl ?_
    refine g_getI (by decide +kernel : decode prog_7_method_3_code 50 = .ok (.getfield 19, 3)) fl_Tp_19.get rfl rfl ?_
    refine g_top (w := nI e) (h.f) ?_
    exact g_iret hR (by decide +kernel : decode prog_7_method_3_code 53 = .ok (.ireturn, 1)) rfl ⟨_, rfl, rfl, le, _, _, h⟩
  · refine g_aload_n (by decide +kernel : decode prog_7_method_3_code 23 = .ok (.aload_n 0, 1)) rfl ?_
    refine g_getI (by decide +kernel : decode prog_7_method_3_code 24 = .ok (.getfield 28, 3)) fl_Tp_28.get rfl rfl ?_
    refine g_top (w := nI (kd B t q)) (h.k) ?_
    refine g_if_eqN (tgt := 49) (by decide +kernel : decode prog_7_method_3_code 27 = .ok (.ifCond .eq 22, 3)) (by decide) (by omega) (fun h27 => ?_) (fun h27 => ?_)
    · refine g_aload_n (by decide +kernel : decode prog_7_method_3_code 49 = .ok (.aload_n 0, 1)) rfl ?_
      refine g_getI (by decide +kernel : decode prog_7_method_3_code 50 = .ok (.getfield 19, 3)) fl_Tp_19.get rfl rfl ?_
      refine g_top (w := nI e) (h.f) ?_
      exact g_iret hR (by decide +kernel : decode prog_7_method_3_code 53 = .ok (.ireturn, 1)) rfl ⟨_, rfl, rfl, le, _, _, h⟩
    · refine g_aload_n (by decide +kernel : decode prog_7_method_3_code 30 = .ok (.aload_n 0, 1)) rfl ?_
      refine g_getI (by decide +kernel : decode prog_7_method_3_code 31 = .ok (.getfield 19, 3)) fl_Tp_19.get rfl rfl ?_
      refine g_top (w := nI e) (h.f) ?_
      refine g_iconst (v := (-1)) (by decide +kernel : decode prog_7_method_3_code 34 = .ok (.iconst (-1), 1)) (by decide) ?_
      refine g_icmp_ne (tgt := 49) (by decide +kernel : decode prog_7_method_3_code 35 = .ok (.if_icmp .ne 14, 3)) (by decide) (fun _ => ?_) (fun q => absurd q.symm (m1_ne (by omega)))
      refine g_aload_n (by decide +kernel : decode prog_7_method_3_code 49 = .ok (.aload_n 0, 1)) rfl ?_
      refine g_getI (by decide +kernel : decode prog_7_method_3_code 50 = .ok (.getfield 19, 3)) fl_Tp_19.get rfl rfl ?_
      refine g_top (w := nI e) (h.f) ?_
      exact g_iret hR (by decide +kernel : decode prog_7_method_3_code 53 = .ok (.ireturn, 1)) rfl ⟨_, rfl, rfl, le, _, _, h⟩
set_option maxRecDepth 20000 in
theorem i_lp {X : CX} {B : Nat → Nat} {t : Nat} {σ0 : Store} : ∀ (b9 k q : Nat) (g : Row) (σ : Store), PS B t σ0 σ q (-1) g → q ≤ t → Inv g → Zf g → k ≤ q → t - q < b9 → Rt (ΛC, mt_Tp_readInto, 9) (PI (RQ B t σ0 (prK B t b9 q g))) X → G (ΛC, mt_Tp_readInto, 9) X σ [some (.ref 29), some (.ref 10), some (.int (nI k))] [] 16 := by
  intro b9
  induction b9 with
  | zero => intro k q g σ h hq hI hZ hk hb hR; omega
  | succ b9 ih =>
  intro k q g σ h hq hI hZ hk hb hR
  have hle := h.le
  have hk3 := kd_le B t q
  refine g_iload_n (by decide +kernel : decode prog_7_method_3_code 16 = .ok (.iload_n 2, 1)) rfl ?_
  refine g_sipush (v := nI 200) (by decide +kernel : decode prog_7_method_3_code 17 = .ok (.sipush 200, 3)) (by decide) ?_
  refine g_icmp_gtN (tgt := 49) (by decide +kernel : decode prog_7_method_3_code 20 = .ok (.if_icmp .gt 29, 3)) (by decide) (by omega) (by decide) (fun q => absurd q (by omega)) (fun _ => ?_)
  refine g_aload_n (by decide +kernel : decode prog_7_method_3_code 23 = .ok (.aload_n 0, 1)) rfl ?_
  refine g_getI (by decide +kernel : decode prog_7_method_3_code 24 = .ok (.getfield 28, 3)) fl_Tp_28.get rfl rfl ?_
  refine g_top (w := nI (kd B t q)) (h.k) ?_
  refine g_if_eqN (tgt := 49) (by decide +kernel : decode prog_7_method_3_code 27 = .ok (.ifCond .eq 22, 3)) (by decide) (by omega) (fun h27 => ?_) (fun h27 => ?_)
  · refine g_aload_n (by decide +kernel : decode prog_7_method_3_code 49 = .ok (.aload_n 0, 1)) rfl ?_
    refine g_getI (by decide +kernel : decode prog_7_method_3_code 50 = .ok (.getfield 19, 3)) fl_Tp_19.get rfl rfl ?_
    refine g_top (w := (-1)) (h.f) ?_
    rw [show prK B t (b9 + 1) q g = .inr g by rw [prK, if_pos h27]] at hR
    exact g_iret hR (by decide +kernel : decode prog_7_method_3_code 53 = .ok (.ireturn, 1)) rfl ⟨_, rfl, rfl, hI, q, h⟩
  · refine g_aload_n (by decide +kernel : decode prog_7_method_3_code 30 = .ok (.aload_n 0, 1)) rfl ?_
    refine g_getI (by decide +kernel : decode prog_7_method_3_code 31 = .ok (.getfield 19, 3)) fl_Tp_19.get rfl rfl ?_
    refine g_top (w := (-1)) (h.f) ?_
    refine g_iconst (v := (-1)) (by decide +kernel : decode prog_7_method_3_code 34 = .ok (.iconst (-1), 1)) (by decide) ?_
    refine g_icmp_ne (tgt := 49) (by decide +kernel : decode prog_7_method_3_code 35 = .ok (.if_icmp .ne 14, 3)) (by decide) (fun h => False.elim (by revert h; decide)) (fun _ => ?_)
    refine g_aload_n (by decide +kernel : decode prog_7_method_3_code 38 = .ok (.aload_n 0, 1)) rfl ?_
    refine g_aload_n (by decide +kernel : decode prog_7_method_3_code 39 = .ok (.aload_n 1, 1)) rfl ?_
    refine g_callVV [.ref 10] (by decide +kernel : decode prog_7_method_3_code 40 = .ok (.invokevirtual 31, 3)) lk_Tp_31 (r_statement h) rfl rfl rfl rfl (Nat.le_of_ble_eq_true rfl) (Nat.le_of_ble_eq_true rfl) (fun s40 h40 => ?_)
    have R40 := h40
    refine g_iincN (n := 1) (L' := [some (.ref 29), some (.ref 10), some (.int (nI (k + 1)))]) (by decide +kernel : decode prog_7_method_3_code 43 = .ok (.iinc 2 1, 3)) rfl (by decide) (Nat.le_of_ble_eq_true rfl) rfl ?_
    refine g_goto (tgt := 16) (by decide +kernel : decode prog_7_method_3_code 46 = .ok (.goto (-30), 3)) (by decide) ?_
    have hok := itm_ok hI hZ hq h27
    cases hit : itm B t g q with
    | inl e =>
      rw [hit] at R40
      obtain ⟨le, q2, g2, S2⟩ := R40
      rw [show prK B t (b9 + 1) q g = .inl e by rw [prK, if_neg h27, hit]] at hR
      exact i_bad S2 le (by omega) hR
    | inr r =>
      rw [hit] at R40 hok
      obtain ⟨o1, o2, o3, o4⟩ := hok
      rw [show prK B t (b9 + 1) q g = prK B t b9 r.1 r.2 by rw [prK, if_neg h27, hit]] at hR
      exact ih (k + 1) r.1 r.2 _ R40 o2 o3 o4 (by omega) (by omega) hR
