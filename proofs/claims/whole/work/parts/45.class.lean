/-! THE PROGRAM: names of the text, as constant Strings -/
def strW : List (List Nat) := [W_at, W_age, W_wit, W_seeks, W_cover, W_is, W_child, W_widower, W_keeper, W_grandson, W_scholar, W_lady, W_out, W_dark, W_lamp, W_peep]
abbrev Wi (i : Nat) : List Nat := strW.getD i []
theorem str_len : ∀ i : Fin 16, strL.getD i.val 0 = (Wi i.val).length := by decide
theorem str_le : ∀ i : Fin 16, strL.getD i.val 0 ≤ 8 := by decide
theorem str_ch : ∀ i : Fin 16, ∀ a : Fin 8, a.val < strL.getD i.val 0 → (strB.getD i.val []).getD a.val 0 = nI ((Wi i.val).getD a.val 0) ∧ (Wi i.val).getD a.val 0 < 128 := by decide
set_option maxRecDepth 20000 in
theorem kw_v : Cond.fieldLink "java/lang/String" 9 "java/lang/String" "value" "[B" ∈ tb := tb_mem 1430 rfl rfl
set_option maxRecDepth 20000 in
theorem kw_c : Cond.fieldLink "java/lang/String" 15 "java/lang/String" "coder" "B" ∈ tb := tb_mem 1431 rfl rfl
set_option maxRecDepth 20000 in
theorem kw_s : Cond.fieldLink "java/lang/String" 38 "java/lang/String" "COMPACT_STRINGS" "Z" ∈ tb := tb_mem 373 rfl rfl
set_option maxRecDepth 20000 in
theorem kw_f : Cond.fieldLink "java/lang/String" 1053 "jdk/internal/util/Preconditions" "SIOOBE_FORMATTER" "Ljava/util/function/BiFunction;" ∈ tb := tb_mem 389 rfl rfl
section GS
variable {Γ : MC} {X : CX} {σ : Store} {L L' : List (Option Value)} {st : List Value} {pc : Nat}
theorem g_ldcS {i k : Nat} (hd : decode Γ.2.1.2.1 pc = .ok (.ldc k, 2)) (hc : Γ.2.1.1.cls = "LateSeekers$TapeReader") (hi : i < 16) (hk : (strK.getD i (0, "")).1 = k) (kk : G Γ X σ L (.ref (1000 + i) :: st) (pc + 2)) : G Γ X σ L st pc := by
  obtain ⟨⟨p, l, e, R⟩, ⟨s, m, args, below⟩, ⟨meth, c, Q⟩, ⟨dC, dI, cI, cB⟩, ⟨ad, A, cells, slots⟩⟩ := X
  intro ok H locs ls hP hS hl
  have h1 := kk ok H locs ls hP hS hl
  obtain ⟨hx, hb, hm, hown, hts, hK, hAp, hA, hRO, -⟩ := ok
  rw [hc] at hown
  subst hk
  exact va_ldcS hx hb hown (hRO.2.2.1 i hi) hd h1
theorem g_strV {i k : Nat} (hd : decode Γ.2.1.2.1 pc = .ok (.getfield k, 3)) (hc : (Γ.2.1.1.cls, k) = ("java/lang/String", 9)) (hi : i < 16) (kk : G Γ X σ L (.ref (1100 + i) :: st) (pc + 3)) : G Γ X σ L (.ref (1000 + i) :: st) pc := by
  obtain ⟨⟨p, l, e, R⟩, ⟨s, m, args, below⟩, ⟨meth, c, Q⟩, ⟨dC, dI, cI, cB⟩, ⟨ad, A, cells, slots⟩⟩ := X
  intro ok H locs ls hP hS hl
  have h1 := kk ok H locs ls hP hS hl
  obtain ⟨hx, hb, hm, hown, hts, hK, hAp, hA, hRO, -⟩ := ok
  obtain ⟨e1, e2⟩ := Prod.mk.inj hc
  rw [e1] at hown
  subst e2
  exact vk_getf hx hb (hRO.2.1.1 i hi).2.2.1 hS hown (hts _ kw_v) (fun _ h => h) hd h1
theorem g_strC {i k : Nat} (hd : decode Γ.2.1.2.1 pc = .ok (.getfield k, 3)) (hc : (Γ.2.1.1.cls, k) = ("java/lang/String", 15)) (hi : i < 16) (kk : G Γ X σ L (.int (nI 0) :: st) (pc + 3)) : G Γ X σ L (.ref (1000 + i) :: st) pc := by
  obtain ⟨⟨p, l, e, R⟩, ⟨s, m, args, below⟩, ⟨meth, c, Q⟩, ⟨dC, dI, cI, cB⟩, ⟨ad, A, cells, slots⟩⟩ := X
  intro ok H locs ls hP hS hl
  have h1 := kk ok H locs ls hP hS hl
  obtain ⟨hx, hb, hm, hown, hts, hK, hAp, hA, hRO, -⟩ := ok
  obtain ⟨e1, e2⟩ := Prod.mk.inj hc
  rw [e1] at hown
  subst e2
  exact vk_getf hx hb (hRO.2.1.1 i hi).2.1 hS hown (hts _ kw_c) (fun _ h => h) hd h1
theorem g_strS {k : Nat} (hd : decode Γ.2.1.2.1 pc = .ok (.getstatic k, 3)) (hc : (Γ.2.1.1.cls, k) = ("java/lang/String", 38)) (kk : G Γ X σ L (.int (nI 1) :: st) (pc + 3)) : G Γ X σ L st pc := by
  obtain ⟨⟨p, l, e, R⟩, ⟨s, m, args, below⟩, ⟨meth, c, Q⟩, ⟨dC, dI, cI, cB⟩, ⟨ad, A, cells, slots⟩⟩ := X
  intro ok H locs ls hP hS hl
  have h1 := kk ok H locs ls hP hS hl
  obtain ⟨hx, hb, hm, hown, hts, hK, hAp, hA, hRO, -⟩ := ok
  obtain ⟨e1, e2⟩ := Prod.mk.inj hc
  rw [e1] at hown
  subst e2
  exact va_gets hx hb hRO.2.2.2.1 hS hown (hts _ kw_s) (fun _ h => h) hd h1
theorem g_strF {k : Nat} (hd : decode Γ.2.1.2.1 pc = .ok (.getstatic k, 3)) (hc : (Γ.2.1.1.cls, k) = ("java/lang/String", 1053)) (k0 : G Γ X σ L (.null :: st) (pc + 3)) (k1 : G Γ X σ L (.ref 1200 :: st) (pc + 3)) : G Γ X σ L st pc := by
  obtain ⟨⟨p, l, e, R⟩, ⟨s, m, args, below⟩, ⟨meth, c, Q⟩, ⟨dC, dI, cI, cB⟩, ⟨ad, A, cells, slots⟩⟩ := X
  intro ok H locs ls hP hS hl
  have h0 := k0 ok H locs ls hP hS hl
  have h1 := k1 ok H locs ls hP hS hl
  obtain ⟨hx, hb, hm, hown, hts, hK, hAp, hA, hRO, -⟩ := ok
  obtain ⟨e1, e2⟩ := Prod.mk.inj hc
  rw [e1] at hown
  subst e2
  rcases hRO.2.2.2.2.1 with h | h
  · exact va_gets hx hb h hS hown (hts _ kw_f) (fun _ h => h) hd h0
  · exact va_gets hx hb h hS hown (hts _ kw_f) (fun _ h => h) hd h1
theorem g_strL {i : Nat} (hd : decode Γ.2.1.2.1 pc = .ok (.arraylength, 1)) (hi : i < 16) (kk : G Γ X σ L (.int (nI (strL.getD i 0)) :: st) (pc + 1)) : G Γ X σ L (.ref (1100 + i) :: st) pc := by
  obtain ⟨⟨p, l, e, R⟩, ⟨s, m, args, below⟩, ⟨meth, c, Q⟩, ⟨dC, dI, cI, cB⟩, ⟨ad, A, cells, slots⟩⟩ := X
  intro ok H locs ls hP hS hl
  have h1 := kk ok H locs ls hP hS hl
  obtain ⟨hx, hb, hm, hown, hts, hK, hAp, hA, hRO, -⟩ := ok
  obtain ⟨cell, q1, q2, q3, q4, q5, q6, q7⟩ := (hRO.2.1.1 i hi).2.2.2.kept hS.2.1
  exact W.alen (n := nI (strL.getD i 0)) hx hb q1 q2 q5 rfl rfl hd h1
theorem g_strB {i a : Nat} {j : Int32} (hd : decode Γ.2.1.2.1 pc = .ok (.baload, 1)) (hi : i < 16) (hj : j = nI a) (ha : a < strL.getD i 0) (kk : G Γ X σ L (.int ((strB.getD i []).getD a 0) :: st) (pc + 1)) : G Γ X σ L (.int j :: .ref (1100 + i) :: st) pc := by
  obtain ⟨⟨p, l, e, R⟩, ⟨s, m, args, below⟩, ⟨meth, c, Q⟩, ⟨dC, dI, cI, cB⟩, ⟨ad, A, cells, slots⟩⟩ := X
  intro ok H locs ls hP hS hl
  have h1 := kk ok H locs ls hP hS hl
  obtain ⟨hx, hb, hm, hown, hts, hK, hAp, hA, hRO, -⟩ := ok
  obtain ⟨cell, q1, q2, q3, q4, q5, q6, q7⟩ := (hRO.2.1.1 i hi).2.2.2.kept hS.2.1
  have hN : strL.getD i 0 < 2 ^ 31 := by have := str_le ⟨i, hi⟩; exact Nat.lt_of_le_of_lt this (by decide)
  obtain ⟨g1, g2⟩ := cl_of hj ha hN
  refine W.bald (v := .int ((strB.getD i []).getD a 0)) hx hb q1 q2 q3 (fun q => ?_) (by rw [g2]; exact q6 a ha) rfl rfl hd h1
  rcases q with q | q
  · exact g1 (Or.inl q)
  · rw [g2] at q; omega
/-- a call of a method of a constant String that answers an int -/
theorem g_callT {i i9 n d : Nat} {ν : Mt} {rest : List Value} {P : Int32 → Store → Prop} (As : List Value) (hd : decode Γ.2.1.2.1 pc = .ok (.invokevirtual i, 3)) (hlk : LkV Γ.2.1.1.cls i ν n) (hc : ν.1.cls = "java/lang/String") (hi9 : i9 < 16) (hC : Ct Γ.1 ν d (.ref (1000 + i9) :: As) σ (PI P)) (hn : As.length = n) (hst : st = As.reverse ++ .ref (1000 + i9) :: rest) (hroom : (rest.map (fun v => v.category)).sum ≤ 8) (hdep : d < Γ.2.2) (kk : ∀ (r : Int32) (σ' : Store), P r σ' → G Γ X σ' L (.int r :: rest) (pc + 3)) : G Γ X σ L st pc := by
  obtain ⟨⟨p, l, e, R⟩, ⟨s, m, args, below⟩, ⟨meth, c, Q⟩, ⟨dC, dI, cI, cB⟩, ⟨ad, A, cells, slots⟩⟩ := X
  intro ok H locs ls hP hS hl
  have h1 : ∀ (v : Option Value) (σ' : Store) (H : Heap) (locs : List Loc), PI P v σ' → va_P (dC, dI) classes (wr cI cB ad σ' 0 Γ.1) H → va_S A s.heap H locs → W p l e R s m args below meth c H locs cells slots Q (F0 m (pc + 3) ls ((v.toList ++ rest).map (cv ad))) := by
    rintro v σ' H locs ⟨r, rfl, hp⟩ hP hS
    exact kk r σ' hp ok H locs ls hP hS hl
  obtain ⟨hx, hb, hm, hown, hts, hK, hAp, hA, hRO, hfr, hlo, hce, hsl⟩ := ok
  obtain ⟨l1, l2, l3, l4, l5, l6, l7⟩ := hlk
  subst hst
  have cw : CallW R s args Γ.2.1.1.cls ν.1.cls i ν.1 ν.2.1 ν.2.2.1 ν.2.2.2 (wds ν) (rmd d) 0 0 n :=
    ⟨callB_of n hts (good_tb l5) rfl rfl rfl (hts _ l4) (hts _ l1) l6 ⟨by show d + 1 ≤ _; omega, by show 8 + (ν.2.2.1 + 11) + 40 * d ≤ _; omega⟩, hts _ l2, hts _ l3⟩
  have hst2 : (As.reverse ++ .ref (1000 + i9) :: rest).map (cv ad) = (As.map (cv ad)).reverse ++ .ref (ad (1000 + i9)) :: rest.map (cv ad) := by simp [cv]
  have hrm := room_cv (m := m) (pc := pc) (ls := ls) (stk := (As.reverse ++ .ref (1000 + i9) :: rest).map (cv ad)) ad hroom
  have hrc : ∃ cell : Cell, H[ad (1000 + i9)]? = some cell ∧ cell.vm.isStatics = false ∧ s.vm.findClass ν.1.cls = some cell.cls := by rw [hc]; exact vk_recv (adK := fun i => ad (1000 + i)) (i := i9) hRO.2.1 hi9 hS
  have hrun := va_runV (p := p) (e := e) (below := below) (meth := meth) (locs := locs) (cells := cells) (slots := slots) (nL := Γ.2.1.2.2.1) (g := F0 m pc ls ((As.reverse ++ .ref (1000 + i9) :: rest).map (cv ad))) (As := As.map (cv ad)) (rest := rest.map (cv ad)) (b := ad (1000 + i9)) ⟨hx, hb, hm, hown, hts⟩ (hC l dC dI cI cB ad) cw ⟨Pw_blind, hrc, fun U hU hW => ⟨rfl, Pw_at hP hS hK hAp hA hRO hU hW⟩⟩ rfl (by rw [List.length_map]; exact hn) hl.1 hst2 hrm hd ⟨hce, hsl⟩
  exact g_run (Γ := Γ) (A := A) (rest := rest) hrun hS hA (fun v σ' H1 locs1 hp hP1 hS1 => h1 v σ' H1 locs1 hp hP1 hS1)
end GS
set_option maxRecDepth 20000 in
theorem t_coder (Λ : Lay) (σ : Store) {i : Nat} (hi : i < 16) : Ct Λ mt_Str_coder 0 [.ref (1000 + i)] σ (PF (nI 0) σ) := by
  refine Ct.ofF (by decide +kernel) (Nat.le_of_ble_eq_true rfl) (fun X hR => ?_)
  show G (Λ, mt_Str_coder, 0) X σ [some (.ref (1000 + i))] [] 0
  refine g_strS (by decide +kernel : decode prog_13_method_152_code 0 = .ok (.getstatic 38, 3)) rfl ?_
  refine g_if_eqN (tgt := 13) (by decide +kernel : decode prog_13_method_152_code 3 = .ok (.ifCond .eq 10, 3)) (by decide) (by decide) (fun h => False.elim (by revert h; decide)) (fun _ => ?_)
  refine g_aload_n (by decide +kernel : decode prog_13_method_152_code 6 = .ok (.aload_n 0, 1)) rfl ?_
  refine g_strC (i := i) (by decide +kernel : decode prog_13_method_152_code 7 = .ok (.getfield 15, 3)) rfl hi ?_
  refine g_goto (tgt := 14) (by decide +kernel : decode prog_13_method_152_code 10 = .ok (.goto 4, 3)) (by decide) ?_
  exact g_nret hR (by decide +kernel : decode prog_13_method_152_code 14 = .ok (.ireturn, 1)) rfl (by decide +kernel) ⟨_, rfl, ⟨rfl, rfl⟩⟩
set_option maxRecDepth 20000 in
theorem t_isLatin1 (Λ : Lay) (σ : Store) {i : Nat} (hi : i < 16) : Ct Λ mt_Str_isLatin1 0 [.ref (1000 + i)] σ (PF (nI 1) σ) := by
  refine Ct.ofF (by decide +kernel) (Nat.le_of_ble_eq_true rfl) (fun X hR => ?_)
  show G (Λ, mt_Str_isLatin1, 0) X σ [some (.ref (1000 + i))] [] 0
  refine g_strS (by decide +kernel : decode prog_13_method_154_code 0 = .ok (.getstatic 38, 3)) rfl ?_
  refine g_if_eqN (tgt := 17) (by decide +kernel : decode prog_13_method_154_code 3 = .ok (.ifCond .eq 14, 3)) (by decide) (by decide) (fun h => False.elim (by revert h; decide)) (fun _ => ?_)
  refine g_aload_n (by decide +kernel : decode prog_13_method_154_code 6 = .ok (.aload_n 0, 1)) rfl ?_
  refine g_strC (i := i) (by decide +kernel : decode prog_13_method_154_code 7 = .ok (.getfield 15, 3)) rfl hi ?_
  refine g_if_neN (tgt := 17) (by decide +kernel : decode prog_13_method_154_code 10 = .ok (.ifCond .ne 7, 3)) (by decide) (by decide) (fun h => False.elim (by revert h; decide)) (fun _ => ?_)
  refine g_iconst (v := nI 1) (by decide +kernel : decode prog_13_method_154_code 13 = .ok (.iconst 1, 1)) (by decide) ?_
  refine g_goto (tgt := 18) (by decide +kernel : decode prog_13_method_154_code 14 = .ok (.goto 4, 3)) (by decide) ?_
  exact g_zret hR (by decide +kernel : decode prog_13_method_154_code 18 = .ok (.ireturn, 1)) rfl (by decide) ⟨_, rfl, ⟨rfl, rfl⟩⟩
theorem sh_0 : ∀ n : Fin 9, nI n.val >>> (nI 0 &&& 31) = nI n.val := by decide +kernel
set_option maxRecDepth 20000 in
theorem t_length (Λ : Lay) (σ : Store) {i : Nat} (hi : i < 16) : Ct Λ mt_Str_length 1 [.ref (1000 + i)] σ (PF (nI (Wi i).length) σ) := by
  refine Ct.ofF (by decide +kernel) (Nat.le_of_ble_eq_true rfl) (fun X hR => ?_)
  show G (Λ, mt_Str_length, 1) X σ [some (.ref (1000 + i))] [] 0
  refine g_aload_n (by decide +kernel : decode prog_13_method_54_code 0 = .ok (.aload_n 0, 1)) rfl ?_
  refine g_strV (i := i) (by decide +kernel : decode prog_13_method_54_code 1 = .ok (.getfield 9, 3)) rfl hi ?_
  refine g_strL (i := i) (by decide +kernel : decode prog_13_method_54_code 4 = .ok (.arraylength, 1)) hi ?_
  refine g_aload_n (by decide +kernel : decode prog_13_method_54_code 5 = .ok (.aload_n 0, 1)) rfl ?_
  refine g_callT (i9 := i) [] (by decide +kernel : decode prog_13_method_54_code 6 = .ok (.invokevirtual 335, 3)) lk_Str_335 rfl hi (t_coder Λ σ hi) rfl rfl (Nat.le_of_ble_eq_true rfl) (Nat.le_of_ble_eq_true rfl) (fun r6 s6 h6 => ?_)
  obtain ⟨rfl, e6⟩ := h6
  have e6 := e6.symm; subst e6
  refine g_ishr (by decide +kernel : decode prog_13_method_54_code 9 = .ok (.ishr, 1)) ?_
  refine g_top (w := nI ((Wi i).length)) (by rw [← str_len ⟨i, hi⟩]; exact sh_0 ⟨strL.getD i 0, Nat.lt_succ_of_le (str_le ⟨i, hi⟩)⟩) ?_
  exact g_iret hR (by decide +kernel : decode prog_13_method_54_code 10 = .ok (.ireturn, 1)) rfl ⟨_, rfl, ⟨rfl, rfl⟩⟩
set_option maxRecDepth 20000 in
theorem t_pren (Λ : Lay) (σ : Store) {a n : Nat} (ha : a < n) (hn : n < 2 ^ 31) : Ct Λ mt_Pre_checkIndex 0 [.int (nI a), .int (nI n), .null] σ (PF (nI a) σ) := by
  refine Ct.ofF (by decide +kernel) (Nat.le_of_ble_eq_true rfl) (fun X hR => ?_)
  show G (Λ, mt_Pre_checkIndex, 0) X σ [some (.int (nI a)), some (.int (nI n)), some (.null)] [] 0
  refine g_iload_n (by decide +kernel : decode prog_17_method_11_code 0 = .ok (.iload_n 0, 1)) rfl ?_
  refine g_if_ltN (by decide +kernel : decode prog_17_method_11_code 1 = .ok (.ifCond .lt 8, 3)) (by decide) (by omega) ?_
  refine g_iload_n (by decide +kernel : decode prog_17_method_11_code 4 = .ok (.iload_n 0, 1)) rfl ?_
  refine g_iload_n (by decide +kernel : decode prog_17_method_11_code 5 = .ok (.iload_n 1, 1)) rfl ?_
  refine g_icmp_ltN (tgt := 16) (by decide +kernel : decode prog_17_method_11_code 6 = .ok (.if_icmp .lt 10, 3)) (by decide) (by omega) (by omega) (fun _ => ?_) (fun q => absurd ha q)
  refine g_iload_n (by decide +kernel : decode prog_17_method_11_code 16 = .ok (.iload_n 0, 1)) rfl ?_
  exact g_iret hR (by decide +kernel : decode prog_17_method_11_code 17 = .ok (.ireturn, 1)) rfl ⟨_, rfl, ⟨rfl, rfl⟩⟩
set_option maxRecDepth 20000 in
theorem t_prer (Λ : Lay) (σ : Store) {a n : Nat} (ha : a < n) (hn : n < 2 ^ 31) : Ct Λ mt_Pre_checkIndex 0 [.int (nI a), .int (nI n), .ref 1200] σ (PF (nI a) σ) := by
  refine Ct.ofF (by decide +kernel) (Nat.le_of_ble_eq_true rfl) (fun X hR => ?_)
  show G (Λ, mt_Pre_checkIndex, 0) X σ [some (.int (nI a)), some (.int (nI n)), some (.ref 1200)] [] 0
  refine g_iload_n (by decide +kernel : decode prog_17_method_11_code 0 = .ok (.iload_n 0, 1)) rfl ?_
  refine g_if_ltN (by decide +kernel : decode prog_17_method_11_code 1 = .ok (.ifCond .lt 8, 3)) (by decide) (by omega) ?_
  refine g_iload_n (by decide +kernel : decode prog_17_method_11_code 4 = .ok (.iload_n 0, 1)) rfl ?_
  refine g_iload_n (by decide +kernel : decode prog_17_method_11_code 5 = .ok (.iload_n 1, 1)) rfl ?_
  refine g_icmp_ltN (tgt := 16) (by decide +kernel : decode prog_17_method_11_code 6 = .ok (.if_icmp .lt 10, 3)) (by decide) (by omega) (by omega) (fun _ => ?_) (fun q => absurd ha q)
  refine g_iload_n (by decide +kernel : decode prog_17_method_11_code 16 = .ok (.iload_n 0, 1)) rfl ?_
  exact g_iret hR (by decide +kernel : decode prog_17_method_11_code 17 = .ok (.ireturn, 1)) rfl ⟨_, rfl, ⟨rfl, rfl⟩⟩
set_option maxRecDepth 20000 in
theorem t_check (Λ : Lay) (σ : Store) {a n : Nat} (ha : a < n) (hn : n < 2 ^ 31) : Ct Λ mt_Str_checkIndex 1 [.int (nI a), .int (nI n)] σ (PU σ) := by
  refine Ct.ofF (by decide +kernel) (Nat.le_of_ble_eq_true rfl) (fun X hR => ?_)
  show G (Λ, mt_Str_checkIndex, 1) X σ [some (.int (nI a)), some (.int (nI n))] [] 0
  refine g_iload_n (by decide +kernel : decode prog_13_method_155_code 0 = .ok (.iload_n 0, 1)) rfl ?_
  refine g_iload_n (by decide +kernel : decode prog_13_method_155_code 1 = .ok (.iload_n 1, 1)) rfl ?_
  refine g_strF (by decide +kernel : decode prog_13_method_155_code 2 = .ok (.getstatic 1053, 3)) rfl ?_ ?_
  · refine g_callSI [.int (nI a), .int (nI n), .null] (by decide +kernel : decode prog_13_method_155_code 5 = .ok (.invokestatic 1059, 3)) lk_Str_1059 (t_pren Λ σ ha hn) rfl rfl (Nat.le_of_ble_eq_true rfl) (Nat.le_of_ble_eq_true rfl) (fun r5 s5 h5 => ?_)
    obtain ⟨rfl, e5⟩ := h5
    have e5 := e5.symm; subst e5
    refine g_pop (by decide +kernel : decode prog_13_method_155_code 8 = .ok (.pop, 1)) rfl ?_
    exact g_vret hR (by decide +kernel : decode prog_13_method_155_code 9 = .ok (.return_, 1)) rfl ⟨rfl, rfl⟩
  · refine g_callSI [.int (nI a), .int (nI n), .ref 1200] (by decide +kernel : decode prog_13_method_155_code 5 = .ok (.invokestatic 1059, 3)) lk_Str_1059 (t_prer Λ σ ha hn) rfl rfl (Nat.le_of_ble_eq_true rfl) (Nat.le_of_ble_eq_true rfl) (fun r5 s5 h5 => ?_)
    obtain ⟨rfl, e5⟩ := h5
    have e5 := e5.symm; subst e5
    refine g_pop (by decide +kernel : decode prog_13_method_155_code 8 = .ok (.pop, 1)) rfl ?_
    exact g_vret hR (by decide +kernel : decode prog_13_method_155_code 9 = .ok (.return_, 1)) rfl ⟨rfl, rfl⟩
theorem ch_ok : ∀ c : Fin 128, (Int32.toUInt32 (nI c.val &&& nI 255) % 65536).toInt32 = nI c.val := by decide +kernel
theorem ch_nar : ∀ c : Fin 128, narrow .char (.int (nI c.val)) = .int (nI c.val) := by decide +kernel
theorem str_c {i a : Nat} (hi : i < 16) (ha : a < strL.getD i 0) : (strB.getD i []).getD a 0 = nI ((Wi i).getD a 0) ∧ (Wi i).getD a 0 < 128 := by
  have h8 := str_le ⟨i, hi⟩
  have h9 : strL.getD i 0 ≤ 8 := h8
  exact str_ch ⟨i, hi⟩ ⟨a, by omega⟩ ha
set_option maxRecDepth 20000 in
theorem t_latAt (Λ : Lay) (σ : Store) {i a : Nat} (hi : i < 16) (ha : a < strL.getD i 0) : Ct Λ mt_Lat_charAt 2 [.ref (1100 + i), .int (nI a)] σ (PF (nI ((Wi i).getD a 0)) σ) := by
  refine Ct.ofF (by decide +kernel) (Nat.le_of_ble_eq_true rfl) (fun X hR => ?_)
  show G (Λ, mt_Lat_charAt, 2) X σ [some (.ref (1100 + i)), some (.int (nI a))] [] 0
  have h8 : strL.getD i 0 ≤ 8 := str_le ⟨i, hi⟩
  have hc := str_c hi ha
  refine g_iload_n (by decide +kernel : decode prog_14_method_2_code 0 = .ok (.iload_n 1, 1)) rfl ?_
  refine g_aload_n (by decide +kernel : decode prog_14_method_2_code 1 = .ok (.aload_n 0, 1)) rfl ?_
  refine g_strL (i := i) (by decide +kernel : decode prog_14_method_2_code 2 = .ok (.arraylength, 1)) hi ?_
  refine g_callSV [.int (nI a), .int (nI (strL.getD i 0))] (by decide +kernel : decode prog_14_method_2_code 3 = .ok (.invokestatic 9, 3)) lk_Lat_9 (t_check Λ σ ha (by omega)) rfl rfl (Nat.le_of_ble_eq_true rfl) (Nat.le_of_ble_eq_true rfl) (fun s3 h3 => ?_)
  have e3 := h3
  have e3 := e3.symm; subst e3
  refine g_aload_n (by decide +kernel : decode prog_14_method_2_code 6 = .ok (.aload_n 0, 1)) rfl ?_
  refine g_iload_n (by decide +kernel : decode prog_14_method_2_code 7 = .ok (.iload_n 1, 1)) rfl ?_
  refine g_strB (i := i) (a := a) (by decide +kernel : decode prog_14_method_2_code 8 = .ok (.baload, 1)) hi rfl ha ?_
  refine g_top (w := nI ((Wi i).getD a 0)) (hc.1) ?_
  refine g_sipush (v := nI 255) (by decide +kernel : decode prog_14_method_2_code 9 = .ok (.sipush 255, 3)) (by decide) ?_
  refine g_iand (by decide +kernel : decode prog_14_method_2_code 12 = .ok (.iand, 1)) ?_
  refine g_i2c (by decide +kernel : decode prog_14_method_2_code 13 = .ok (.i2c, 1)) ?_
  refine g_top (w := nI ((Wi i).getD a 0)) (ch_ok ⟨_, hc.2⟩) ?_
  exact g_nret hR (by decide +kernel : decode prog_14_method_2_code 14 = .ok (.ireturn, 1)) rfl (ch_nar ⟨_, hc.2⟩) ⟨_, rfl, ⟨rfl, rfl⟩⟩
set_option maxRecDepth 20000 in
theorem t_charAt (Λ : Lay) (σ : Store) {i a : Nat} (hi : i < 16) (ha : a < strL.getD i 0) : Ct Λ mt_Str_charAt 4 [.ref (1000 + i), .int (nI a)] σ (PF (nI ((Wi i).getD a 0)) σ) := by
  refine Ct.ofF (by decide +kernel) (Nat.le_of_ble_eq_true rfl) (fun X hR => ?_)
  show G (Λ, mt_Str_charAt, 4) X σ [some (.ref (1000 + i)), some (.int (nI a))] [] 0
  have hc := str_c hi ha
  refine g_aload_n (by decide +kernel : decode prog_13_method_56_code 0 = .ok (.aload_n 0, 1)) rfl ?_
  refine g_callT (i9 := i) [] (by decide +kernel : decode prog_13_method_56_code 1 = .ok (.invokevirtual 492, 3)) lk_Str_492 rfl hi (t_isLatin1 Λ σ hi) rfl rfl (Nat.le_of_ble_eq_true rfl) (Nat.le_of_ble_eq_true rfl) (fun r1 s1 h1 => ?_)
  obtain ⟨rfl, e1⟩ := h1
  have e1 := e1.symm; subst e1
  refine g_if_eqN (tgt := 16) (by decide +kernel : decode prog_13_method_56_code 4 = .ok (.ifCond .eq 12, 3)) (by decide) (by decide) (fun h => False.elim (by revert h; decide)) (fun _ => ?_)
  refine g_aload_n (by decide +kernel : decode prog_13_method_56_code 7 = .ok (.aload_n 0, 1)) rfl ?_
  refine g_strV (i := i) (by decide +kernel : decode prog_13_method_56_code 8 = .ok (.getfield 9, 3)) rfl hi ?_
  refine g_iload_n (by decide +kernel : decode prog_13_method_56_code 11 = .ok (.iload_n 1, 1)) rfl ?_
  refine g_callSI [.ref (1100 + i), .int (nI a)] (by decide +kernel : decode prog_13_method_56_code 12 = .ok (.invokestatic 495, 3)) lk_Str_495 (t_latAt Λ σ hi ha) rfl rfl (Nat.le_of_ble_eq_true rfl) (Nat.le_of_ble_eq_true rfl) (fun r12 s12 h12 => ?_)
  obtain ⟨rfl, e12⟩ := h12
  have e12 := e12.symm; subst e12
  exact g_nret hR (by decide +kernel : decode prog_13_method_56_code 15 = .ok (.ireturn, 1)) rfl (ch_nar ⟨_, hc.2⟩) ⟨_, rfl, ⟨rfl, rfl⟩⟩
