/-! THE LAW: its beginning, run -/
set_option maxHeartbeats 4000000 in
set_option maxRecDepth 20000 in
theorem whole_start {p : Program} {e : Env} {s : State} {m : MethodId} {below : List Frame} {meth : Method} {c : Code} (l : Launch) {b L : Nat} {xs : Nat → Int32} (hL : L ≤ 3072) (C0 : lw_At p s m meth c b L xs) : W p l e room_1 s m #[Value.ref b] below meth c s.heap [] 0 0 (lw_Z below #[Value.ref b] s) (entryFrame m ([Value.ref b] : List Value).toArray 4) := by
  obtain ⟨hx, hb, hr, hml, hown, hts, hX, hbl, hlocks, hgv⟩ := id C0
  have htb : ∀ w ∈ tb, w.before #[Value.ref b] s = true := fun w hw => hts w (tb_in hw)
  obtain ⟨ad, h13, hRO, hNL⟩ := ro_start hts (flat_of_before _ hgv)
  obtain ⟨dC, dI, cI, cB, hK⟩ := vk_start htb
  have hP : va_P (dC, dI) classes [] s.heap := fun k q h => by simp at h
  have hD : va_D (fun q : Nat => s.heap.size ≤ q) [] := ⟨fun i j p q h => by simp at h, fun k q h => by simp at h⟩
  have hl := lv_entry ([.ref b]) (n := 4) (Nat.le_of_ble_eq_true rfl)
  rw [lg_entry_eq]
  generalize (lg_sl ([.ref b]) ++ List.replicate (4 - (lg_sl ([.ref b])).length) Slot.unset).toArray = ls at hl ⊢
  have hl0 : lh ls 4 idA [some (.ref b), none, none, none] := lh_ent (as := [.ref b]) (ad := idA) hl
  suffices h : GW (mt_Law, 30, 58, 1446) ((p, l, e, room_1), (s, m, #[Value.ref b], below), (meth, c, lw_Z below #[Value.ref b] s), (dC, dI, cI, cB), (ad, fun q : Nat => s.heap.size ≤ q)) [] 0 0 [some (.ref b), none, none, none] [] 0 from h ⟨hx, hb, hml, hown, htb, hK, fun _ h => h, ⟨hRO, hNL⟩, by decide, by decide, by decide, by decide, fun h => absurd (show ("law" : String) = "<init>" from h) (by decide)⟩ s.heap [] ls hP hD va_S.rf hl0
  refine w_new (ci := 0) (C := R_LS) (T := F_LS) (N := 9) (ty := t_LS) (fs := [.null, .null, .int 0, .null, .null, .null, .null, .null, .null]) (by decide +kernel : decode code 0 = .ok (.new 7, 3)) rfl i_LS t_LS_ok lc_Law_7 df_LS (by decide) (by decide) (fun q0 => ?_)
  refine w_dup (by decide +kernel : decode code 3 = .ok (.dup, 1)) rfl ?_
  refine w_init (ws0 := ([] : va_W)) (q := q0) (by decide +kernel : decode code 4 = .ok (.invokespecial 9, 3)) lm_Law_9 li_LS i_init_LS rfl (Nat.le_of_ble_eq_true rfl) (by decide) (by decide) (by decide) (fun a4 t4 e4 p4 => ?_)
  rw [← e4]
  refine w_astore (L' := [some (.ref b), some (.ref (a4 0)), none, none]) (by decide +kernel : decode code 7 = .ok (.astore_n 1, 1)) (Nat.le_of_ble_eq_true rfl) rfl ?_
  refine w_ws (show _ = wr cI cB a4 t4 0 ΛC from rfl) ?_
  refine w_new (ci := 8) (C := R_Md) (T := F_Md) (N := 27) (ty := t_Md) (fs := [.null, .null, .null, .null, .int 0, .null, .int 0, .int 0, .int 0, .int 0, .int 0, .int 0, .null, .null, .int 0, .null, .null, .null, .null, .null, .null, .null, .int 0, .int 0, .int 0, .int 0, .int 0]) (by decide +kernel : decode code 8 = .ok (.new 10, 3)) rfl i_Md t_Md_ok lc_Law_10 df_Md (by decide) (by decide) (fun q8 => ?_)
  refine w_dup (by decide +kernel : decode code 11 = .ok (.dup, 1)) rfl ?_
  refine w_init (ws0 := (wr cI cB a4 t4 0 ΛC)) (q := q8) (by decide +kernel : decode code 12 = .ok (.invokespecial 12, 3)) lm_Law_12 li_Md i_init_Md rfl (Nat.le_of_ble_eq_true rfl) (by decide) (by decide) (by decide) (fun a12 t12 e12 p12 => ?_)
  rw [← e12]
  refine w_astore (L' := [some (.ref b), some (.ref (a4 0)), some (.ref (a12 0)), none]) (by decide +kernel : decode code 15 = .ok (.astore_n 2, 1)) (Nat.le_of_ble_eq_true rfl) rfl ?_
  refine w_ws (show _ = wr cI cB (fun z => if z < 43 then a4 z else if z < 58 then a12 (z - 43) else ad z) (fun z => if z < 43 then t4 z else t12 (z - 43)) 0 ΛL from rfl) ?_
  refine w_iconst (v := nI 0) (by decide +kernel : decode code 16 = .ok (.iconst 0, 1)) (by decide) ?_
  refine w_istore (L' := [some (.ref b), some (.ref (a4 0)), some (.ref (a12 0)), some (.int (nI 0))]) (by decide +kernel : decode code 17 = .ok (.istore_n 3, 1)) (Nat.le_of_ble_eq_true rfl) rfl ?_
  refine w_to (Λ := ΛL) (ad' := (fun z => if z < 43 then a4 z else if z < 58 then a12 (z - 43) else ad z)) (σ := (fun z => if z < 43 then t4 z else t12 (z - 43))) (L' := [some (.ref 1300), some (.ref 0), some (.ref 43), some (.int (nI 0))]) rfl (fun z hz => by rw [if_neg (by omega), if_neg (by omega)]) (fun i v hv => ?_) (by decide) (by decide) ?_
  · match i, hv with
    | 0, hv => cases hv; show some (some (Value.ref b)) = some (some (Value.ref (ad 1300))); rw [h13]
    | 1, hv => cases hv; rfl
    | 2, hv => cases hv; rfl
    | 3, hv => cases hv; rfl
    | i + 4, hv => simp at hv
  · have hJ : Jv (fun z => if z < 43 then t4 z else t12 (z - 43)) := by
      have hM : ∀ k, k < 15 → sub ixM (fun z => if z < 43 then t4 z else t12 (z - 43)) k = t12 k := fun k hk => (subM hk).trans (by show (if 43 + k < 43 then _ else t12 (43 + k - 43)) = _; rw [if_neg (by omega), show 43 + k - 43 = k by omega])
      unfold Jv
      rw [hM 1 (by decide)]
      exact (RX.new p4 p12).cg (fun k hk => (subC hk).trans (if_pos hk)) (hM 0 (by decide)) (hM 2 (by decide)) (hM 5 (by decide)) (hM 7 (by decide)) (hM 8 (by decide)) (hM 9 (by decide)) (hM 10 (by decide)) (hM 11 (by decide)) (hM 12 (by decide)) (hM 13 (by decide)) (hM 14 (by decide))
    exact law_loop (b := b) (L := L) (xs := xs) ⟨hX, hbl, Nat.not_le.mpr hbl, h13⟩ hL ⟨rfl, rfl, rfl, rfl, hr, hlocks, Nat.le_of_ble_eq_true rfl, Nat.le_of_ble_eq_true rfl⟩ (L + 7) 0 _ hJ (by omega) (by omega)
