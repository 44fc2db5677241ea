/-! THE LAW: its loop -/
/-! THE CLAIM OUT OF ONE WALK OF THE LAW'S BODY. Your part is whole_start (and what it stands on); all else here is the same for every law, but numbers. -/
def R_law : String := "LateSeekersLaw"
def lw_P (b : Addr) (xs : List Int32) (args : Array Value) (s : State) : Prop := args = #[.ref b] ∧ s.IntsAt b xs ∧ xs.length ≤ 3072 ∧ (Jvm.Cond.and given_1 narrow_1).before args s = true
def lw_Q (_ : Array Value) (s : State) (o : Outcome) (t : State) : Prop := o = .returned (some (.int 1)) ∧ Framed s o t [] 600000 7302250
def lw_Z (below : List Frame) (a : Array Value) (s : State) : State → Prop := fun t => ∃ o, t.status = .running ∧ Ended t below o ∧ lw_Q a s o t
/-- the law's own end, with 1 on the stack, nothing written that was there before, its room as the claim has it -/
theorem lw_ret {p : Program} {l : Launch} {e : Env} {s : State} {m : MethodId} {below : List Frame} {meth : Method} {c : Code} {b : Nat} (hx : p.tables.exec = Jvm.exec) (hb : c.code = code) (hr : meth.sig.returnType = ret) (hlocks : meth.locks = false) {pc : Nat} {H : Heap} {ls : Array Slot} (hdg : decode code pc = .ok (.ireturn, 1)) : W p l e room_1 s m #[Value.ref b] below meth c H [] 600000 7302250 (lw_Z below #[Value.ref b] s) (F0 m pc ls [.int 1]) := by
  intro T hT X
  obtain ⟨fs, hret, hrun, hended, hW, hframe⟩ := X.leave (v := some (.int 1)) (hlocks := hlocks) (fun h => by rw [hr] at h; cases h)
  have hmeth' : T.vm.method? m = some meth := X.method'
  refine ⟨T.setFrames fs, ?_, .returned (some (.int 1)), hrun, hended, rfl, ⟨_, rfl⟩, hW, hframe⟩
  jvm_step X.here [X.here.top, hx, hb, hdg, hmeth', hr, ret, narrow_b1]
  (try refine ⟨rfl, ?_⟩); (try refine ⟨rfl, ?_⟩)
  first | (intro acts; rw [hret _ acts rfl rfl rfl]) | rw [hret _ _ rfl rfl rfl]
  exact Steps.refl _
/-- what holds at the law's entry: the machine, the code, the tables' words (any of lw_tbl by 'hts w (by decide +kernel)'), the script of L ints xs at the cell b, what the Statement gives of the start (any of its parts by flat_of_before) -/
def lw_At (p : Program) (s : State) (m : MethodId) (meth : Method) (c : Code) (b L : Nat) (xs : Nat → Int32) : Prop :=
  p.tables.exec = Jvm.exec ∧ c.code = code ∧ meth.sig.returnType = ret ∧ c.maxLocals = 4 ∧ s.vm.findClass R_law = some m.cls ∧ (∀ w ∈ lw_tbl, w.before #[Value.ref b] s = true) ∧ va_X b L xs s s.heap ∧ b < s.heap.size ∧ meth.locks = false ∧ (Jvm.Cond.and given_1 narrow_1).before #[Value.ref b] s = true
abbrev mt_Law : Mt := (⟨"LateSeekersLaw", "law", "([I)Z"⟩, code, 4, ret)
def SX (X : CX) (b L : Nat) (xs : Nat → Int32) : Prop := match X with
  | (_, (s, _, _, _), _, _, (ad, A, _, _)) => va_X b L xs s s.heap ∧ b < s.heap.size ∧ ¬ A b ∧ ad 1300 = b
def RtW (X : CX) (b : Nat) : Prop := match X with
  | ((_, _, _, R), (s, _, args, below), (meth, _, Q), _, (_, A, cells, slots)) => R = room_1 ∧ args = #[.ref b] ∧ Q = lw_Z below #[.ref b] s ∧ A = (fun q : Nat => s.heap.size ≤ q) ∧ meth.sig.returnType = ret ∧ meth.locks = false ∧ cells ≤ 600000 ∧ slots ≤ 7302250
section LW
variable {Γ : MC} {X : CX} {σ : Store} {L : List (Option Value)} {st : List Value} {pc b n : Nat} {xs : Nat → Int32}
theorem g_sld {a : Nat} {i : Int32} (hX : SX X b n xs) (hd : decode Γ.2.1.2.1 pc = .ok (.iaload, 1)) (hi : i = nI a) (ha : a < n) (hn : n < 2 ^ 31) (kk : G Γ X σ L (.int (xs a) :: st) (pc + 1)) : G Γ X σ L (.int i :: .ref 1300 :: st) pc := by
  obtain ⟨⟨p, l, e, R⟩, ⟨s, m, args, below⟩, ⟨meth, c, Q⟩, ⟨dC, dI, cI, cB⟩, ⟨ad, A, cells, slots⟩⟩ := X
  intro ok H locs ls hP hS hl
  have h1 := kk ok H locs ls hP hS hl
  obtain ⟨hx, hb, -⟩ := ok
  obtain ⟨x1, x2, x3, x4⟩ := hX
  obtain ⟨g1, g2⟩ := cl_of hi ha hn
  show W p l e R s m args below meth c H locs cells slots Q (F0 m pc ls (.int i :: .ref (ad 1300) :: st.map (cv ad)))
  rw [x4]
  refine va_sld hx hb x1 x2 x3 hS g1 hd ?_
  rw [g2]
  exact h1
theorem g_slen (hX : SX X b n xs) (hd : decode Γ.2.1.2.1 pc = .ok (.arraylength, 1)) (kk : G Γ X σ L (.int (nI n) :: st) (pc + 1)) : G Γ X σ L (.ref 1300 :: st) pc := by
  obtain ⟨⟨p, l, e, R⟩, ⟨s, m, args, below⟩, ⟨meth, c, Q⟩, ⟨dC, dI, cI, cB⟩, ⟨ad, A, cells, slots⟩⟩ := X
  intro ok H locs ls hP hS hl
  have h1 := kk ok H locs ls hP hS hl
  obtain ⟨hx, hb, -⟩ := ok
  obtain ⟨x1, x2, x3, x4⟩ := hX
  show W p l e R s m args below meth c H locs cells slots Q (F0 m pc ls (.ref (ad 1300) :: st.map (cv ad)))
  rw [x4]
  exact va_slen hx hb x1 x2 x3 hS hd h1
theorem g_lawret {Λ : Lay} {D : Nat} (hR : RtW X b) (hd : decode code pc = .ok (.ireturn, 1)) : G (Λ, mt_Law, D) X σ L [.int (nI 1)] pc := by
  obtain ⟨⟨p, l, e, R⟩, ⟨s, m, args, below⟩, ⟨meth, c, Q⟩, ⟨dC, dI, cI, cB⟩, ⟨ad, A, cells, slots⟩⟩ := X
  intro ok H locs ls hP hS hl
  obtain ⟨hx, hb, -⟩ := ok
  obtain ⟨r1, r2, r3, r4, r5, r6, r7, r8⟩ := hR
  subst r1; subst r2; subst r3; subst r4
  refine va_forget (fun q hq => hS.2.2 q hq) ?_
  refine W.widen r7 r8 ?_
  exact lw_ret hx hb r5 r6 hd
end LW
theorem le_6 {L i : Nat} (hL : L ≤ 3072) (hi : i ≤ 4000) (h : ¬ nI L - nI 6 < nI i) : i + 6 ≤ L := by
  rw [Int32.lt_iff_toInt_lt, pk_sub_toInt (by omega) (by decide), nI_toInt (by omega)] at h
  omega
set_option maxRecDepth 20000 in
/-- feed -/
theorem law_c0 {X : CX} {b L i : Nat} {xs : Nat → Int32} {σ : Store} (hX : SX X b L xs) (hL : L ≤ 3072) (hi : i + 6 ≤ L) (hJ : Jv σ) (kk : ∀ σ', Jv σ' → G (ΛL, mt_Law, 30) X σ' [some (.ref 1300), some (.ref 0), some (.ref 43), some (.int (nI i))] [] 1682) : G (ΛL, mt_Law, 30) X σ [some (.ref 1300), some (.ref 0), some (.ref 43), some (.int (nI i))] [] 232 := by
  refine g_aload_n (by decide +kernel : decode code 232 = .ok (.aload_n 1, 1)) rfl ?_
  refine g_aload_n (by decide +kernel : decode code 233 = .ok (.aload_n 0, 1)) rfl ?_
  refine g_iload_n (by decide +kernel : decode code 234 = .ok (.iload_n 3, 1)) rfl ?_
  refine g_iconst (v := nI 1) (by decide +kernel : decode code 235 = .ok (.iconst 1, 1)) (by decide) ?_
  refine g_iaddN (by decide +kernel : decode code 236 = .ok (.iadd, 1)) ?_
  refine g_sld hX (by decide +kernel : decode code 237 = .ok (.iaload, 1)) rfl (by omega) (by omega) ?_
  refine g_i2l (by decide +kernel : decode code 238 = .ok (.i2l, 1)) ?_
  refine g_bipush (v := nI 32) (by decide +kernel : decode code 239 = .ok (.bipush 32, 2)) (by decide) ?_
  refine g_lshl (by decide +kernel : decode code 241 = .ok (.lshl, 1)) ?_
  refine g_aload_n (by decide +kernel : decode code 242 = .ok (.aload_n 0, 1)) rfl ?_
  refine g_iload_n (by decide +kernel : decode code 243 = .ok (.iload_n 3, 1)) rfl ?_
  refine g_iconst (v := nI 2) (by decide +kernel : decode code 244 = .ok (.iconst 2, 1)) (by decide) ?_
  refine g_iaddN (by decide +kernel : decode code 245 = .ok (.iadd, 1)) ?_
  refine g_sld hX (by decide +kernel : decode code 246 = .ok (.iaload, 1)) rfl (by omega) (by omega) ?_
  refine g_i2l (by decide +kernel : decode code 247 = .ok (.i2l, 1)) ?_
  refine g_ldc2 (v := lN 4294967295) (by decide +kernel : decode code 248 = .ok (.ldc2_w 13, 3)) kc_Law_13 ?_
  refine g_land (by decide +kernel : decode code 251 = .ok (.land, 1)) ?_
  refine g_lor (by decide +kernel : decode code 252 = .ok (.lor, 1)) ?_
  refine g_aload_n (by decide +kernel : decode code 253 = .ok (.aload_n 0, 1)) rfl ?_
  refine g_iload_n (by decide +kernel : decode code 254 = .ok (.iload_n 3, 1)) rfl ?_
  refine g_iconst (v := nI 3) (by decide +kernel : decode code 255 = .ok (.iconst 3, 1)) (by decide) ?_
  refine g_iaddN (by decide +kernel : decode code 256 = .ok (.iadd, 1)) ?_
  refine g_sld hX (by decide +kernel : decode code 257 = .ok (.iaload, 1)) rfl (by omega) (by omega) ?_
  refine g_callVI [.long (((Int32.toInt64 (xs (i + 1))) <<< (Int32.toInt64 (nI 32) &&& 63)) ||| ((Int32.toInt64 (xs (i + 2))) &&& (lN 4294967295))), .int (xs (i + 3))] (by decide +kernel : decode code 258 = .ok (.invokevirtual 15, 3)) lk_Law_15 (st_feed hJ (((Int32.toInt64 (xs (i + 1))) <<< (Int32.toInt64 (nI 32) &&& 63)) ||| ((Int32.toInt64 (xs (i + 2))) &&& (lN 4294967295))) (xs (i + 3))) rfl rfl rfl rfl (Nat.le_of_ble_eq_true rfl) (Nat.le_of_ble_eq_true rfl) (fun r258 s258 h258 => ?_)
  refine g_aload_n (by decide +kernel : decode code 261 = .ok (.aload_n 2, 1)) rfl ?_
  refine g_aload_n (by decide +kernel : decode code 262 = .ok (.aload_n 0, 1)) rfl ?_
  refine g_iload_n (by decide +kernel : decode code 263 = .ok (.iload_n 3, 1)) rfl ?_
  refine g_iconst (v := nI 1) (by decide +kernel : decode code 264 = .ok (.iconst 1, 1)) (by decide) ?_
  refine g_iaddN (by decide +kernel : decode code 265 = .ok (.iadd, 1)) ?_
  refine g_sld hX (by decide +kernel : decode code 266 = .ok (.iaload, 1)) rfl (by omega) (by omega) ?_
  refine g_i2l (by decide +kernel : decode code 267 = .ok (.i2l, 1)) ?_
  refine g_bipush (v := nI 32) (by decide +kernel : decode code 268 = .ok (.bipush 32, 2)) (by decide) ?_
  refine g_lshl (by decide +kernel : decode code 270 = .ok (.lshl, 1)) ?_
  refine g_aload_n (by decide +kernel : decode code 271 = .ok (.aload_n 0, 1)) rfl ?_
  refine g_iload_n (by decide +kernel : decode code 272 = .ok (.iload_n 3, 1)) rfl ?_
  refine g_iconst (v := nI 2) (by decide +kernel : decode code 273 = .ok (.iconst 2, 1)) (by decide) ?_
  refine g_iaddN (by decide +kernel : decode code 274 = .ok (.iadd, 1)) ?_
  refine g_sld hX (by decide +kernel : decode code 275 = .ok (.iaload, 1)) rfl (by omega) (by omega) ?_
  refine g_i2l (by decide +kernel : decode code 276 = .ok (.i2l, 1)) ?_
  refine g_ldc2 (v := lN 4294967295) (by decide +kernel : decode code 277 = .ok (.ldc2_w 13, 3)) kc_Law_13 ?_
  refine g_land (by decide +kernel : decode code 280 = .ok (.land, 1)) ?_
  refine g_lor (by decide +kernel : decode code 281 = .ok (.lor, 1)) ?_
  refine g_aload_n (by decide +kernel : decode code 282 = .ok (.aload_n 0, 1)) rfl ?_
  refine g_iload_n (by decide +kernel : decode code 283 = .ok (.iload_n 3, 1)) rfl ?_
  refine g_iconst (v := nI 3) (by decide +kernel : decode code 284 = .ok (.iconst 3, 1)) (by decide) ?_
  refine g_iaddN (by decide +kernel : decode code 285 = .ok (.iadd, 1)) ?_
  refine g_sld hX (by decide +kernel : decode code 286 = .ok (.iaload, 1)) rfl (by omega) (by omega) ?_
  refine g_callVI [.long (((Int32.toInt64 (xs (i + 1))) <<< (Int32.toInt64 (nI 32) &&& 63)) ||| ((Int32.toInt64 (xs (i + 2))) &&& (lN 4294967295))), .int (xs (i + 3))] (by decide +kernel : decode code 287 = .ok (.invokevirtual 19, 3)) lk_Law_19 (h258) rfl rfl rfl rfl (Nat.le_of_ble_eq_true rfl) (Nat.le_of_ble_eq_true rfl) (fun r287 s287 h287 => ?_)
  obtain ⟨e9, j9⟩ := h287
  refine g_icmp_eq (tgt := 1682) (by decide +kernel : decode code 290 = .ok (.if_icmp .eq 1392, 3)) (by decide) (fun _ => kk _ j9) (fun q => absurd e9 q)
set_option maxRecDepth 20000 in
/-- park -/
theorem law_c1 {X : CX} {b L i : Nat} {xs : Nat → Int32} {σ : Store} (hX : SX X b L xs) (hL : L ≤ 3072) (hi : i + 6 ≤ L) (hJ : Jv σ) (kk : ∀ σ', Jv σ' → G (ΛL, mt_Law, 30) X σ' [some (.ref 1300), some (.ref 0), some (.ref 43), some (.int (nI i))] [] 1682) : G (ΛL, mt_Law, 30) X σ [some (.ref 1300), some (.ref 0), some (.ref 43), some (.int (nI i))] [] 295 := by
  refine g_aload_n (by decide +kernel : decode code 295 = .ok (.aload_n 1, 1)) rfl ?_
  refine g_callVI [] (by decide +kernel : decode code 296 = .ok (.invokevirtual 20, 3)) lk_Law_20 (st_park hJ ) rfl rfl rfl rfl (Nat.le_of_ble_eq_true rfl) (Nat.le_of_ble_eq_true rfl) (fun r296 s296 h296 => ?_)
  refine g_aload_n (by decide +kernel : decode code 299 = .ok (.aload_n 2, 1)) rfl ?_
  refine g_callVI [] (by decide +kernel : decode code 300 = .ok (.invokevirtual 24, 3)) lk_Law_24 (h296) rfl rfl rfl rfl (Nat.le_of_ble_eq_true rfl) (Nat.le_of_ble_eq_true rfl) (fun r300 s300 h300 => ?_)
  obtain ⟨e9, j9⟩ := h300
  refine g_icmp_eq (tgt := 1682) (by decide +kernel : decode code 303 = .ok (.if_icmp .eq 1379, 3)) (by decide) (fun _ => kk _ j9) (fun q => absurd e9 q)
set_option maxRecDepth 20000 in
/-- set -/
theorem law_c2 {X : CX} {b L i : Nat} {xs : Nat → Int32} {σ : Store} (hX : SX X b L xs) (hL : L ≤ 3072) (hi : i + 6 ≤ L) (hJ : Jv σ) (kk : ∀ σ', Jv σ' → G (ΛL, mt_Law, 30) X σ' [some (.ref 1300), some (.ref 0), some (.ref 43), some (.int (nI i))] [] 1682) : G (ΛL, mt_Law, 30) X σ [some (.ref 1300), some (.ref 0), some (.ref 43), some (.int (nI i))] [] 308 := by
  refine g_aload_n (by decide +kernel : decode code 308 = .ok (.aload_n 1, 1)) rfl ?_
  refine g_aload_n (by decide +kernel : decode code 309 = .ok (.aload_n 0, 1)) rfl ?_
  refine g_iload_n (by decide +kernel : decode code 310 = .ok (.iload_n 3, 1)) rfl ?_
  refine g_iconst (v := nI 1) (by decide +kernel : decode code 311 = .ok (.iconst 1, 1)) (by decide) ?_
  refine g_iaddN (by decide +kernel : decode code 312 = .ok (.iadd, 1)) ?_
  refine g_sld hX (by decide +kernel : decode code 313 = .ok (.iaload, 1)) rfl (by omega) (by omega) ?_
  refine g_aload_n (by decide +kernel : decode code 314 = .ok (.aload_n 0, 1)) rfl ?_
  refine g_iload_n (by decide +kernel : decode code 315 = .ok (.iload_n 3, 1)) rfl ?_
  refine g_iconst (v := nI 2) (by decide +kernel : decode code 316 = .ok (.iconst 2, 1)) (by decide) ?_
  refine g_iaddN (by decide +kernel : decode code 317 = .ok (.iadd, 1)) ?_
  refine g_sld hX (by decide +kernel : decode code 318 = .ok (.iaload, 1)) rfl (by omega) (by omega) ?_
  refine g_callVI [.int (xs (i + 1)), .int (xs (i + 2))] (by decide +kernel : decode code 319 = .ok (.invokevirtual 25, 3)) lk_Law_25 (st_set hJ (xs (i + 1)) (xs (i + 2))) rfl rfl rfl rfl (Nat.le_of_ble_eq_true rfl) (Nat.le_of_ble_eq_true rfl) (fun r319 s319 h319 => ?_)
  refine g_aload_n (by decide +kernel : decode code 322 = .ok (.aload_n 2, 1)) rfl ?_
  refine g_aload_n (by decide +kernel : decode code 323 = .ok (.aload_n 0, 1)) rfl ?_
  refine g_iload_n (by decide +kernel : decode code 324 = .ok (.iload_n 3, 1)) rfl ?_
  refine g_iconst (v := nI 1) (by decide +kernel : decode code 325 = .ok (.iconst 1, 1)) (by decide) ?_
  refine g_iaddN (by decide +kernel : decode code 326 = .ok (.iadd, 1)) ?_
  refine g_sld hX (by decide +kernel : decode code 327 = .ok (.iaload, 1)) rfl (by omega) (by omega) ?_
  refine g_aload_n (by decide +kernel : decode code 328 = .ok (.aload_n 0, 1)) rfl ?_
  refine g_iload_n (by decide +kernel : decode code 329 = .ok (.iload_n 3, 1)) rfl ?_
  refine g_iconst (v := nI 2) (by decide +kernel : decode code 330 = .ok (.iconst 2, 1)) (by decide) ?_
  refine g_iaddN (by decide +kernel : decode code 331 = .ok (.iadd, 1)) ?_
  refine g_sld hX (by decide +kernel : decode code 332 = .ok (.iaload, 1)) rfl (by omega) (by omega) ?_
  refine g_callVI [.int (xs (i + 1)), .int (xs (i + 2))] (by decide +kernel : decode code 333 = .ok (.invokevirtual 29, 3)) lk_Law_29 (h319) rfl rfl rfl rfl (Nat.le_of_ble_eq_true rfl) (Nat.le_of_ble_eq_true rfl) (fun r333 s333 h333 => ?_)
  obtain ⟨e9, j9⟩ := h333
  refine g_icmp_eq (tgt := 1682) (by decide +kernel : decode code 336 = .ok (.if_icmp .eq 1346, 3)) (by decide) (fun _ => kk _ j9) (fun q => absurd e9 q)
set_option maxRecDepth 20000 in
/-- lawOf -/
theorem law_c3 {X : CX} {b L i : Nat} {xs : Nat → Int32} {σ : Store} (hX : SX X b L xs) (hL : L ≤ 3072) (hi : i + 6 ≤ L) (hJ : Jv σ) (kk : ∀ σ', Jv σ' → G (ΛL, mt_Law, 30) X σ' [some (.ref 1300), some (.ref 0), some (.ref 43), some (.int (nI i))] [] 1682) : G (ΛL, mt_Law, 30) X σ [some (.ref 1300), some (.ref 0), some (.ref 43), some (.int (nI i))] [] 341 := by
  refine g_aload_n (by decide +kernel : decode code 341 = .ok (.aload_n 1, 1)) rfl ?_
  refine g_aload_n (by decide +kernel : decode code 342 = .ok (.aload_n 0, 1)) rfl ?_
  refine g_iload_n (by decide +kernel : decode code 343 = .ok (.iload_n 3, 1)) rfl ?_
  refine g_iconst (v := nI 1) (by decide +kernel : decode code 344 = .ok (.iconst 1, 1)) (by decide) ?_
  refine g_iaddN (by decide +kernel : decode code 345 = .ok (.iadd, 1)) ?_
  refine g_sld hX (by decide +kernel : decode code 346 = .ok (.iaload, 1)) rfl (by omega) (by omega) ?_
  refine g_callVI [.int (xs (i + 1))] (by decide +kernel : decode code 347 = .ok (.invokevirtual 30, 3)) lk_Law_30 (st_lawOf hJ (xs (i + 1))) rfl rfl rfl rfl (Nat.le_of_ble_eq_true rfl) (Nat.le_of_ble_eq_true rfl) (fun r347 s347 h347 => ?_)
  refine g_aload_n (by decide +kernel : decode code 350 = .ok (.aload_n 2, 1)) rfl ?_
  refine g_aload_n (by decide +kernel : decode code 351 = .ok (.aload_n 0, 1)) rfl ?_
  refine g_iload_n (by decide +kernel : decode code 352 = .ok (.iload_n 3, 1)) rfl ?_
  refine g_iconst (v := nI 1) (by decide +kernel : decode code 353 = .ok (.iconst 1, 1)) (by decide) ?_
  refine g_iaddN (by decide +kernel : decode code 354 = .ok (.iadd, 1)) ?_
  refine g_sld hX (by decide +kernel : decode code 355 = .ok (.iaload, 1)) rfl (by omega) (by omega) ?_
  refine g_callVI [.int (xs (i + 1))] (by decide +kernel : decode code 356 = .ok (.invokevirtual 34, 3)) lk_Law_34 (h347) rfl rfl rfl rfl (Nat.le_of_ble_eq_true rfl) (Nat.le_of_ble_eq_true rfl) (fun r356 s356 h356 => ?_)
  obtain ⟨e9, j9⟩ := h356
  refine g_icmp_eq (tgt := 1682) (by decide +kernel : decode code 359 = .ok (.if_icmp .eq 1323, 3)) (by decide) (fun _ => kk _ j9) (fun q => absurd e9 q)
set_option maxRecDepth 20000 in
/-- person -/
theorem law_c4 {X : CX} {b L i : Nat} {xs : Nat → Int32} {σ : Store} (hX : SX X b L xs) (hL : L ≤ 3072) (hi : i + 6 ≤ L) (hJ : Jv σ) (kk : ∀ σ', Jv σ' → G (ΛL, mt_Law, 30) X σ' [some (.ref 1300), some (.ref 0), some (.ref 43), some (.int (nI i))] [] 1682) : G (ΛL, mt_Law, 30) X σ [some (.ref 1300), some (.ref 0), some (.ref 43), some (.int (nI i))] [] 364 := by
  refine g_aload_n (by decide +kernel : decode code 364 = .ok (.aload_n 1, 1)) rfl ?_
  refine g_aload_n (by decide +kernel : decode code 365 = .ok (.aload_n 0, 1)) rfl ?_
  refine g_iload_n (by decide +kernel : decode code 366 = .ok (.iload_n 3, 1)) rfl ?_
  refine g_iconst (v := nI 1) (by decide +kernel : decode code 367 = .ok (.iconst 1, 1)) (by decide) ?_
  refine g_iaddN (by decide +kernel : decode code 368 = .ok (.iadd, 1)) ?_
  refine g_sld hX (by decide +kernel : decode code 369 = .ok (.iaload, 1)) rfl (by omega) (by omega) ?_
  refine g_aload_n (by decide +kernel : decode code 370 = .ok (.aload_n 0, 1)) rfl ?_
  refine g_iload_n (by decide +kernel : decode code 371 = .ok (.iload_n 3, 1)) rfl ?_
  refine g_iconst (v := nI 2) (by decide +kernel : decode code 372 = .ok (.iconst 2, 1)) (by decide) ?_
  refine g_iaddN (by decide +kernel : decode code 373 = .ok (.iadd, 1)) ?_
  refine g_sld hX (by decide +kernel : decode code 374 = .ok (.iaload, 1)) rfl (by omega) (by omega) ?_
  refine g_aload_n (by decide +kernel : decode code 375 = .ok (.aload_n 0, 1)) rfl ?_
  refine g_iload_n (by decide +kernel : decode code 376 = .ok (.iload_n 3, 1)) rfl ?_
  refine g_iconst (v := nI 3) (by decide +kernel : decode code 377 = .ok (.iconst 3, 1)) (by decide) ?_
  refine g_iaddN (by decide +kernel : decode code 378 = .ok (.iadd, 1)) ?_
  refine g_sld hX (by decide +kernel : decode code 379 = .ok (.iaload, 1)) rfl (by omega) (by omega) ?_
  refine g_aload_n (by decide +kernel : decode code 380 = .ok (.aload_n 0, 1)) rfl ?_
  refine g_iload_n (by decide +kernel : decode code 381 = .ok (.iload_n 3, 1)) rfl ?_
  refine g_iconst (v := nI 4) (by decide +kernel : decode code 382 = .ok (.iconst 4, 1)) (by decide) ?_
  refine g_iaddN (by decide +kernel : decode code 383 = .ok (.iadd, 1)) ?_
  refine g_sld hX (by decide +kernel : decode code 384 = .ok (.iaload, 1)) rfl (by omega) (by omega) ?_
  refine g_aload_n (by decide +kernel : decode code 385 = .ok (.aload_n 0, 1)) rfl ?_
  refine g_iload_n (by decide +kernel : decode code 386 = .ok (.iload_n 3, 1)) rfl ?_
  refine g_iconst (v := nI 5) (by decide +kernel : decode code 387 = .ok (.iconst 5, 1)) (by decide) ?_
  refine g_iaddN (by decide +kernel : decode code 388 = .ok (.iadd, 1)) ?_
  refine g_sld hX (by decide +kernel : decode code 389 = .ok (.iaload, 1)) rfl (by omega) (by omega) ?_
  refine g_callVI [.int (xs (i + 1)), .int (xs (i + 2)), .int (xs (i + 3)), .int (xs (i + 4)), .int (xs (i + 5))] (by decide +kernel : decode code 390 = .ok (.invokevirtual 35, 3)) lk_Law_35 (st_person hJ (xs (i + 1)) (xs (i + 2)) (xs (i + 3)) (xs (i + 4)) (xs (i + 5))) rfl rfl rfl rfl (Nat.le_of_ble_eq_true rfl) (Nat.le_of_ble_eq_true rfl) (fun r390 s390 h390 => ?_)
  refine g_aload_n (by decide +kernel : decode code 393 = .ok (.aload_n 2, 1)) rfl ?_
  refine g_aload_n (by decide +kernel : decode code 394 = .ok (.aload_n 0, 1)) rfl ?_
  refine g_iload_n (by decide +kernel : decode code 395 = .ok (.iload_n 3, 1)) rfl ?_
  refine g_iconst (v := nI 1) (by decide +kernel : decode code 396 = .ok (.iconst 1, 1)) (by decide) ?_
  refine g_iaddN (by decide +kernel : decode code 397 = .ok (.iadd, 1)) ?_
  refine g_sld hX (by decide +kernel : decode code 398 = .ok (.iaload, 1)) rfl (by omega) (by omega) ?_
  refine g_aload_n (by decide +kernel : decode code 399 = .ok (.aload_n 0, 1)) rfl ?_
  refine g_iload_n (by decide +kernel : decode code 400 = .ok (.iload_n 3, 1)) rfl ?_
  refine g_iconst (v := nI 2) (by decide +kernel : decode code 401 = .ok (.iconst 2, 1)) (by decide) ?_
  refine g_iaddN (by decide +kernel : decode code 402 = .ok (.iadd, 1)) ?_
  refine g_sld hX (by decide +kernel : decode code 403 = .ok (.iaload, 1)) rfl (by omega) (by omega) ?_
  refine g_aload_n (by decide +kernel : decode code 404 = .ok (.aload_n 0, 1)) rfl ?_
  refine g_iload_n (by decide +kernel : decode code 405 = .ok (.iload_n 3, 1)) rfl ?_
  refine g_iconst (v := nI 3) (by decide +kernel : decode code 406 = .ok (.iconst 3, 1)) (by decide) ?_
  refine g_iaddN (by decide +kernel : decode code 407 = .ok (.iadd, 1)) ?_
  refine g_sld hX (by decide +kernel : decode code 408 = .ok (.iaload, 1)) rfl (by omega) (by omega) ?_
  refine g_aload_n (by decide +kernel : decode code 409 = .ok (.aload_n 0, 1)) rfl ?_
  refine g_iload_n (by decide +kernel : decode code 410 = .ok (.iload_n 3, 1)) rfl ?_
  refine g_iconst (v := nI 4) (by decide +kernel : decode code 411 = .ok (.iconst 4, 1)) (by decide) ?_
  refine g_iaddN (by decide +kernel : decode code 412 = .ok (.iadd, 1)) ?_
  refine g_sld hX (by decide +kernel : decode code 413 = .ok (.iaload, 1)) rfl (by omega) (by omega) ?_
  refine g_aload_n (by decide +kernel : decode code 414 = .ok (.aload_n 0, 1)) rfl ?_
  refine g_iload_n (by decide +kernel : decode code 415 = .ok (.iload_n 3, 1)) rfl ?_
  refine g_iconst (v := nI 5) (by decide +kernel : decode code 416 = .ok (.iconst 5, 1)) (by decide) ?_
  refine g_iaddN (by decide +kernel : decode code 417 = .ok (.iadd, 1)) ?_
  refine g_sld hX (by decide +kernel : decode code 418 = .ok (.iaload, 1)) rfl (by omega) (by omega) ?_
  refine g_callVI [.int (xs (i + 1)), .int (xs (i + 2)), .int (xs (i + 3)), .int (xs (i + 4)), .int (xs (i + 5))] (by decide +kernel : decode code 419 = .ok (.invokevirtual 39, 3)) lk_Law_39 (h390) rfl rfl rfl rfl (Nat.le_of_ble_eq_true rfl) (Nat.le_of_ble_eq_true rfl) (fun r419 s419 h419 => ?_)
  obtain ⟨e9, j9⟩ := h419
  refine g_icmp_eq (tgt := 1682) (by decide +kernel : decode code 422 = .ok (.if_icmp .eq 1260, 3)) (by decide) (fun _ => kk _ j9) (fun q => absurd e9 q)
set_option maxRecDepth 20000 in
/-- of -/
theorem law_c5 {X : CX} {b L i : Nat} {xs : Nat → Int32} {σ : Store} (hX : SX X b L xs) (hL : L ≤ 3072) (hi : i + 6 ≤ L) (hJ : Jv σ) (kk : ∀ σ', Jv σ' → G (ΛL, mt_Law, 30) X σ' [some (.ref 1300), some (.ref 0), some (.ref 43), some (.int (nI i))] [] 1682) : G (ΛL, mt_Law, 30) X σ [some (.ref 1300), some (.ref 0), some (.ref 43), some (.int (nI i))] [] 427 := by
  refine g_aload_n (by decide +kernel : decode code 427 = .ok (.aload_n 1, 1)) rfl ?_
  refine g_aload_n (by decide +kernel : decode code 428 = .ok (.aload_n 0, 1)) rfl ?_
  refine g_iload_n (by decide +kernel : decode code 429 = .ok (.iload_n 3, 1)) rfl ?_
  refine g_iconst (v := nI 1) (by decide +kernel : decode code 430 = .ok (.iconst 1, 1)) (by decide) ?_
  refine g_iaddN (by decide +kernel : decode code 431 = .ok (.iadd, 1)) ?_
  refine g_sld hX (by decide +kernel : decode code 432 = .ok (.iaload, 1)) rfl (by omega) (by omega) ?_
  refine g_aload_n (by decide +kernel : decode code 433 = .ok (.aload_n 0, 1)) rfl ?_
  refine g_iload_n (by decide +kernel : decode code 434 = .ok (.iload_n 3, 1)) rfl ?_
  refine g_iconst (v := nI 2) (by decide +kernel : decode code 435 = .ok (.iconst 2, 1)) (by decide) ?_
  refine g_iaddN (by decide +kernel : decode code 436 = .ok (.iadd, 1)) ?_
  refine g_sld hX (by decide +kernel : decode code 437 = .ok (.iaload, 1)) rfl (by omega) (by omega) ?_
  refine g_callVI [.int (xs (i + 1)), .int (xs (i + 2))] (by decide +kernel : decode code 438 = .ok (.invokevirtual 40, 3)) lk_Law_40 (st_of hJ (xs (i + 1)) (xs (i + 2))) rfl rfl rfl rfl (Nat.le_of_ble_eq_true rfl) (Nat.le_of_ble_eq_true rfl) (fun r438 s438 h438 => ?_)
  refine g_aload_n (by decide +kernel : decode code 441 = .ok (.aload_n 2, 1)) rfl ?_
  refine g_aload_n (by decide +kernel : decode code 442 = .ok (.aload_n 0, 1)) rfl ?_
  refine g_iload_n (by decide +kernel : decode code 443 = .ok (.iload_n 3, 1)) rfl ?_
  refine g_iconst (v := nI 1) (by decide +kernel : decode code 444 = .ok (.iconst 1, 1)) (by decide) ?_
  refine g_iaddN (by decide +kernel : decode code 445 = .ok (.iadd, 1)) ?_
  refine g_sld hX (by decide +kernel : decode code 446 = .ok (.iaload, 1)) rfl (by omega) (by omega) ?_
  refine g_aload_n (by decide +kernel : decode code 447 = .ok (.aload_n 0, 1)) rfl ?_
  refine g_iload_n (by decide +kernel : decode code 448 = .ok (.iload_n 3, 1)) rfl ?_
  refine g_iconst (v := nI 2) (by decide +kernel : decode code 449 = .ok (.iconst 2, 1)) (by decide) ?_
  refine g_iaddN (by decide +kernel : decode code 450 = .ok (.iadd, 1)) ?_
  refine g_sld hX (by decide +kernel : decode code 451 = .ok (.iaload, 1)) rfl (by omega) (by omega) ?_
  refine g_callVI [.int (xs (i + 1)), .int (xs (i + 2))] (by decide +kernel : decode code 452 = .ok (.invokevirtual 43, 3)) lk_Law_43 (h438) rfl rfl rfl rfl (Nat.le_of_ble_eq_true rfl) (Nat.le_of_ble_eq_true rfl) (fun r452 s452 h452 => ?_)
  obtain ⟨e9, j9⟩ := h452
  refine g_icmp_eq (tgt := 1682) (by decide +kernel : decode code 455 = .ok (.if_icmp .eq 1227, 3)) (by decide) (fun _ => kk _ j9) (fun q => absurd e9 q)
set_option maxRecDepth 20000 in
/-- does -/
theorem law_c6 {X : CX} {b L i : Nat} {xs : Nat → Int32} {σ : Store} (hX : SX X b L xs) (hL : L ≤ 3072) (hi : i + 6 ≤ L) (hJ : Jv σ) (kk : ∀ σ', Jv σ' → G (ΛL, mt_Law, 30) X σ' [some (.ref 1300), some (.ref 0), some (.ref 43), some (.int (nI i))] [] 1682) : G (ΛL, mt_Law, 30) X σ [some (.ref 1300), some (.ref 0), some (.ref 43), some (.int (nI i))] [] 460 := by
  refine g_aload_n (by decide +kernel : decode code 460 = .ok (.aload_n 1, 1)) rfl ?_
  refine g_aload_n (by decide +kernel : decode code 461 = .ok (.aload_n 0, 1)) rfl ?_
  refine g_iload_n (by decide +kernel : decode code 462 = .ok (.iload_n 3, 1)) rfl ?_
  refine g_iconst (v := nI 1) (by decide +kernel : decode code 463 = .ok (.iconst 1, 1)) (by decide) ?_
  refine g_iaddN (by decide +kernel : decode code 464 = .ok (.iadd, 1)) ?_
  refine g_sld hX (by decide +kernel : decode code 465 = .ok (.iaload, 1)) rfl (by omega) (by omega) ?_
  refine g_aload_n (by decide +kernel : decode code 466 = .ok (.aload_n 0, 1)) rfl ?_
  refine g_iload_n (by decide +kernel : decode code 467 = .ok (.iload_n 3, 1)) rfl ?_
  refine g_iconst (v := nI 2) (by decide +kernel : decode code 468 = .ok (.iconst 2, 1)) (by decide) ?_
  refine g_iaddN (by decide +kernel : decode code 469 = .ok (.iadd, 1)) ?_
  refine g_sld hX (by decide +kernel : decode code 470 = .ok (.iaload, 1)) rfl (by omega) (by omega) ?_
  refine g_callVI [.int (xs (i + 1)), .int (xs (i + 2))] (by decide +kernel : decode code 471 = .ok (.invokevirtual 44, 3)) lk_Law_44 (st_does hJ (xs (i + 1)) (xs (i + 2))) rfl rfl rfl rfl (Nat.le_of_ble_eq_true rfl) (Nat.le_of_ble_eq_true rfl) (fun r471 s471 h471 => ?_)
  refine g_aload_n (by decide +kernel : decode code 474 = .ok (.aload_n 2, 1)) rfl ?_
  refine g_aload_n (by decide +kernel : decode code 475 = .ok (.aload_n 0, 1)) rfl ?_
  refine g_iload_n (by decide +kernel : decode code 476 = .ok (.iload_n 3, 1)) rfl ?_
  refine g_iconst (v := nI 1) (by decide +kernel : decode code 477 = .ok (.iconst 1, 1)) (by decide) ?_
  refine g_iaddN (by decide +kernel : decode code 478 = .ok (.iadd, 1)) ?_
  refine g_sld hX (by decide +kernel : decode code 479 = .ok (.iaload, 1)) rfl (by omega) (by omega) ?_
  refine g_aload_n (by decide +kernel : decode code 480 = .ok (.aload_n 0, 1)) rfl ?_
  refine g_iload_n (by decide +kernel : decode code 481 = .ok (.iload_n 3, 1)) rfl ?_
  refine g_iconst (v := nI 2) (by decide +kernel : decode code 482 = .ok (.iconst 2, 1)) (by decide) ?_
  refine g_iaddN (by decide +kernel : decode code 483 = .ok (.iadd, 1)) ?_
  refine g_sld hX (by decide +kernel : decode code 484 = .ok (.iaload, 1)) rfl (by omega) (by omega) ?_
  refine g_callVI [.int (xs (i + 1)), .int (xs (i + 2))] (by decide +kernel : decode code 485 = .ok (.invokevirtual 47, 3)) lk_Law_47 (h471) rfl rfl rfl rfl (Nat.le_of_ble_eq_true rfl) (Nat.le_of_ble_eq_true rfl) (fun r485 s485 h485 => ?_)
  obtain ⟨e9, j9⟩ := h485
  refine g_icmp_eq (tgt := 1682) (by decide +kernel : decode code 488 = .ok (.if_icmp .eq 1194, 3)) (by decide) (fun _ => kk _ j9) (fun q => absurd e9 q)
set_option maxRecDepth 20000 in
/-- mind -/
theorem law_c7 {X : CX} {b L i : Nat} {xs : Nat → Int32} {σ : Store} (hX : SX X b L xs) (hL : L ≤ 3072) (hi : i + 6 ≤ L) (hJ : Jv σ) (kk : ∀ σ', Jv σ' → G (ΛL, mt_Law, 30) X σ' [some (.ref 1300), some (.ref 0), some (.ref 43), some (.int (nI i))] [] 1682) : G (ΛL, mt_Law, 30) X σ [some (.ref 1300), some (.ref 0), some (.ref 43), some (.int (nI i))] [] 493 := by
  refine g_aload_n (by decide +kernel : decode code 493 = .ok (.aload_n 1, 1)) rfl ?_
  refine g_aload_n (by decide +kernel : decode code 494 = .ok (.aload_n 0, 1)) rfl ?_
  refine g_iload_n (by decide +kernel : decode code 495 = .ok (.iload_n 3, 1)) rfl ?_
  refine g_iconst (v := nI 1) (by decide +kernel : decode code 496 = .ok (.iconst 1, 1)) (by decide) ?_
  refine g_iaddN (by decide +kernel : decode code 497 = .ok (.iadd, 1)) ?_
  refine g_sld hX (by decide +kernel : decode code 498 = .ok (.iaload, 1)) rfl (by omega) (by omega) ?_
  refine g_aload_n (by decide +kernel : decode code 499 = .ok (.aload_n 0, 1)) rfl ?_
  refine g_iload_n (by decide +kernel : decode code 500 = .ok (.iload_n 3, 1)) rfl ?_
  refine g_iconst (v := nI 2) (by decide +kernel : decode code 501 = .ok (.iconst 2, 1)) (by decide) ?_
  refine g_iaddN (by decide +kernel : decode code 502 = .ok (.iadd, 1)) ?_
  refine g_sld hX (by decide +kernel : decode code 503 = .ok (.iaload, 1)) rfl (by omega) (by omega) ?_
  refine g_aload_n (by decide +kernel : decode code 504 = .ok (.aload_n 0, 1)) rfl ?_
  refine g_iload_n (by decide +kernel : decode code 505 = .ok (.iload_n 3, 1)) rfl ?_
  refine g_iconst (v := nI 3) (by decide +kernel : decode code 506 = .ok (.iconst 3, 1)) (by decide) ?_
  refine g_iaddN (by decide +kernel : decode code 507 = .ok (.iadd, 1)) ?_
  refine g_sld hX (by decide +kernel : decode code 508 = .ok (.iaload, 1)) rfl (by omega) (by omega) ?_
  refine g_callVI [.int (xs (i + 1)), .int (xs (i + 2)), .int (xs (i + 3))] (by decide +kernel : decode code 509 = .ok (.invokevirtual 48, 3)) lk_Law_48 (st_mind hJ (xs (i + 1)) (xs (i + 2)) (xs (i + 3))) rfl rfl rfl rfl (Nat.le_of_ble_eq_true rfl) (Nat.le_of_ble_eq_true rfl) (fun r509 s509 h509 => ?_)
  refine g_aload_n (by decide +kernel : decode code 512 = .ok (.aload_n 2, 1)) rfl ?_
  refine g_aload_n (by decide +kernel : decode code 513 = .ok (.aload_n 0, 1)) rfl ?_
  refine g_iload_n (by decide +kernel : decode code 514 = .ok (.iload_n 3, 1)) rfl ?_
  refine g_iconst (v := nI 1) (by decide +kernel : decode code 515 = .ok (.iconst 1, 1)) (by decide) ?_
  refine g_iaddN (by decide +kernel : decode code 516 = .ok (.iadd, 1)) ?_
  refine g_sld hX (by decide +kernel : decode code 517 = .ok (.iaload, 1)) rfl (by omega) (by omega) ?_
  refine g_aload_n (by decide +kernel : decode code 518 = .ok (.aload_n 0, 1)) rfl ?_
  refine g_iload_n (by decide +kernel : decode code 519 = .ok (.iload_n 3, 1)) rfl ?_
  refine g_iconst (v := nI 2) (by decide +kernel : decode code 520 = .ok (.iconst 2, 1)) (by decide) ?_
  refine g_iaddN (by decide +kernel : decode code 521 = .ok (.iadd, 1)) ?_
  refine g_sld hX (by decide +kernel : decode code 522 = .ok (.iaload, 1)) rfl (by omega) (by omega) ?_
  refine g_aload_n (by decide +kernel : decode code 523 = .ok (.aload_n 0, 1)) rfl ?_
  refine g_iload_n (by decide +kernel : decode code 524 = .ok (.iload_n 3, 1)) rfl ?_
  refine g_iconst (v := nI 3) (by decide +kernel : decode code 525 = .ok (.iconst 3, 1)) (by decide) ?_
  refine g_iaddN (by decide +kernel : decode code 526 = .ok (.iadd, 1)) ?_
  refine g_sld hX (by decide +kernel : decode code 527 = .ok (.iaload, 1)) rfl (by omega) (by omega) ?_
  refine g_callVI [.int (xs (i + 1)), .int (xs (i + 2)), .int (xs (i + 3))] (by decide +kernel : decode code 528 = .ok (.invokevirtual 52, 3)) lk_Law_52 (h509) rfl rfl rfl rfl (Nat.le_of_ble_eq_true rfl) (Nat.le_of_ble_eq_true rfl) (fun r528 s528 h528 => ?_)
  obtain ⟨e9, j9⟩ := h528
  refine g_icmp_eq (tgt := 1682) (by decide +kernel : decode code 531 = .ok (.if_icmp .eq 1151, 3)) (by decide) (fun _ => kk _ j9) (fun q => absurd e9 q)
set_option maxRecDepth 20000 in
/-- age -/
theorem law_c8 {X : CX} {b L i : Nat} {xs : Nat → Int32} {σ : Store} (hX : SX X b L xs) (hL : L ≤ 3072) (hi : i + 6 ≤ L) (hJ : Jv σ) (kk : ∀ σ', Jv σ' → G (ΛL, mt_Law, 30) X σ' [some (.ref 1300), some (.ref 0), some (.ref 43), some (.int (nI i))] [] 1682) : G (ΛL, mt_Law, 30) X σ [some (.ref 1300), some (.ref 0), some (.ref 43), some (.int (nI i))] [] 536 := by
  refine g_aload_n (by decide +kernel : decode code 536 = .ok (.aload_n 1, 1)) rfl ?_
  refine g_aload_n (by decide +kernel : decode code 537 = .ok (.aload_n 0, 1)) rfl ?_
  refine g_iload_n (by decide +kernel : decode code 538 = .ok (.iload_n 3, 1)) rfl ?_
  refine g_iconst (v := nI 1) (by decide +kernel : decode code 539 = .ok (.iconst 1, 1)) (by decide) ?_
  refine g_iaddN (by decide +kernel : decode code 540 = .ok (.iadd, 1)) ?_
  refine g_sld hX (by decide +kernel : decode code 541 = .ok (.iaload, 1)) rfl (by omega) (by omega) ?_
  refine g_aload_n (by decide +kernel : decode code 542 = .ok (.aload_n 0, 1)) rfl ?_
  refine g_iload_n (by decide +kernel : decode code 543 = .ok (.iload_n 3, 1)) rfl ?_
  refine g_iconst (v := nI 2) (by decide +kernel : decode code 544 = .ok (.iconst 2, 1)) (by decide) ?_
  refine g_iaddN (by decide +kernel : decode code 545 = .ok (.iadd, 1)) ?_
  refine g_sld hX (by decide +kernel : decode code 546 = .ok (.iaload, 1)) rfl (by omega) (by omega) ?_
  refine g_callVI [.int (xs (i + 1)), .int (xs (i + 2))] (by decide +kernel : decode code 547 = .ok (.invokevirtual 53, 3)) lk_Law_53 (st_age hJ (xs (i + 1)) (xs (i + 2))) rfl rfl rfl rfl (Nat.le_of_ble_eq_true rfl) (Nat.le_of_ble_eq_true rfl) (fun r547 s547 h547 => ?_)
  refine g_aload_n (by decide +kernel : decode code 550 = .ok (.aload_n 2, 1)) rfl ?_
  refine g_aload_n (by decide +kernel : decode code 551 = .ok (.aload_n 0, 1)) rfl ?_
  refine g_iload_n (by decide +kernel : decode code 552 = .ok (.iload_n 3, 1)) rfl ?_
  refine g_iconst (v := nI 1) (by decide +kernel : decode code 553 = .ok (.iconst 1, 1)) (by decide) ?_
  refine g_iaddN (by decide +kernel : decode code 554 = .ok (.iadd, 1)) ?_
  refine g_sld hX (by decide +kernel : decode code 555 = .ok (.iaload, 1)) rfl (by omega) (by omega) ?_
  refine g_aload_n (by decide +kernel : decode code 556 = .ok (.aload_n 0, 1)) rfl ?_
  refine g_iload_n (by decide +kernel : decode code 557 = .ok (.iload_n 3, 1)) rfl ?_
  refine g_iconst (v := nI 2) (by decide +kernel : decode code 558 = .ok (.iconst 2, 1)) (by decide) ?_
  refine g_iaddN (by decide +kernel : decode code 559 = .ok (.iadd, 1)) ?_
  refine g_sld hX (by decide +kernel : decode code 560 = .ok (.iaload, 1)) rfl (by omega) (by omega) ?_
  refine g_callVI [.int (xs (i + 1)), .int (xs (i + 2))] (by decide +kernel : decode code 561 = .ok (.invokevirtual 56, 3)) lk_Law_56 (h547) rfl rfl rfl rfl (Nat.le_of_ble_eq_true rfl) (Nat.le_of_ble_eq_true rfl) (fun r561 s561 h561 => ?_)
  obtain ⟨e9, j9⟩ := h561
  refine g_icmp_eq (tgt := 1682) (by decide +kernel : decode code 564 = .ok (.if_icmp .eq 1118, 3)) (by decide) (fun _ => kk _ j9) (fun q => absurd e9 q)
set_option maxRecDepth 20000 in
/-- bring -/
theorem law_c9 {X : CX} {b L i : Nat} {xs : Nat → Int32} {σ : Store} (hX : SX X b L xs) (hL : L ≤ 3072) (hi : i + 6 ≤ L) (hJ : Jv σ) (kk : ∀ σ', Jv σ' → G (ΛL, mt_Law, 30) X σ' [some (.ref 1300), some (.ref 0), some (.ref 43), some (.int (nI i))] [] 1682) : G (ΛL, mt_Law, 30) X σ [some (.ref 1300), some (.ref 0), some (.ref 43), some (.int (nI i))] [] 569 := by
  refine g_aload_n (by decide +kernel : decode code 569 = .ok (.aload_n 1, 1)) rfl ?_
  refine g_aload_n (by decide +kernel : decode code 570 = .ok (.aload_n 0, 1)) rfl ?_
  refine g_iload_n (by decide +kernel : decode code 571 = .ok (.iload_n 3, 1)) rfl ?_
  refine g_iconst (v := nI 1) (by decide +kernel : decode code 572 = .ok (.iconst 1, 1)) (by decide) ?_
  refine g_iaddN (by decide +kernel : decode code 573 = .ok (.iadd, 1)) ?_
  refine g_sld hX (by decide +kernel : decode code 574 = .ok (.iaload, 1)) rfl (by omega) (by omega) ?_
  refine g_aload_n (by decide +kernel : decode code 575 = .ok (.aload_n 0, 1)) rfl ?_
  refine g_iload_n (by decide +kernel : decode code 576 = .ok (.iload_n 3, 1)) rfl ?_
  refine g_iconst (v := nI 2) (by decide +kernel : decode code 577 = .ok (.iconst 2, 1)) (by decide) ?_
  refine g_iaddN (by decide +kernel : decode code 578 = .ok (.iadd, 1)) ?_
  refine g_sld hX (by decide +kernel : decode code 579 = .ok (.iaload, 1)) rfl (by omega) (by omega) ?_
  refine g_callVI [.int (xs (i + 1)), .int (xs (i + 2))] (by decide +kernel : decode code 580 = .ok (.invokevirtual 57, 3)) lk_Law_57 (st_bring hJ (xs (i + 1)) (xs (i + 2))) rfl rfl rfl rfl (Nat.le_of_ble_eq_true rfl) (Nat.le_of_ble_eq_true rfl) (fun r580 s580 h580 => ?_)
  refine g_aload_n (by decide +kernel : decode code 583 = .ok (.aload_n 2, 1)) rfl ?_
  refine g_aload_n (by decide +kernel : decode code 584 = .ok (.aload_n 0, 1)) rfl ?_
  refine g_iload_n (by decide +kernel : decode code 585 = .ok (.iload_n 3, 1)) rfl ?_
  refine g_iconst (v := nI 1) (by decide +kernel : decode code 586 = .ok (.iconst 1, 1)) (by decide) ?_
  refine g_iaddN (by decide +kernel : decode code 587 = .ok (.iadd, 1)) ?_
  refine g_sld hX (by decide +kernel : decode code 588 = .ok (.iaload, 1)) rfl (by omega) (by omega) ?_
  refine g_aload_n (by decide +kernel : decode code 589 = .ok (.aload_n 0, 1)) rfl ?_
  refine g_iload_n (by decide +kernel : decode code 590 = .ok (.iload_n 3, 1)) rfl ?_
  refine g_iconst (v := nI 2) (by decide +kernel : decode code 591 = .ok (.iconst 2, 1)) (by decide) ?_
  refine g_iaddN (by decide +kernel : decode code 592 = .ok (.iadd, 1)) ?_
  refine g_sld hX (by decide +kernel : decode code 593 = .ok (.iaload, 1)) rfl (by omega) (by omega) ?_
  refine g_callVI [.int (xs (i + 1)), .int (xs (i + 2))] (by decide +kernel : decode code 594 = .ok (.invokevirtual 60, 3)) lk_Law_60 (h580) rfl rfl rfl rfl (Nat.le_of_ble_eq_true rfl) (Nat.le_of_ble_eq_true rfl) (fun r594 s594 h594 => ?_)
  obtain ⟨e9, j9⟩ := h594
  refine g_icmp_eq (tgt := 1682) (by decide +kernel : decode code 597 = .ok (.if_icmp .eq 1085, 3)) (by decide) (fun _ => kk _ j9) (fun q => absurd e9 q)
set_option maxRecDepth 20000 in
/-- seek -/
theorem law_c10 {X : CX} {b L i : Nat} {xs : Nat → Int32} {σ : Store} (hX : SX X b L xs) (hL : L ≤ 3072) (hi : i + 6 ≤ L) (hJ : Jv σ) (kk : ∀ σ', Jv σ' → G (ΛL, mt_Law, 30) X σ' [some (.ref 1300), some (.ref 0), some (.ref 43), some (.int (nI i))] [] 1682) : G (ΛL, mt_Law, 30) X σ [some (.ref 1300), some (.ref 0), some (.ref 43), some (.int (nI i))] [] 602 := by
  refine g_aload_n (by decide +kernel : decode code 602 = .ok (.aload_n 1, 1)) rfl ?_
  refine g_aload_n (by decide +kernel : decode code 603 = .ok (.aload_n 0, 1)) rfl ?_
  refine g_iload_n (by decide +kernel : decode code 604 = .ok (.iload_n 3, 1)) rfl ?_
  refine g_iconst (v := nI 1) (by decide +kernel : decode code 605 = .ok (.iconst 1, 1)) (by decide) ?_
  refine g_iaddN (by decide +kernel : decode code 606 = .ok (.iadd, 1)) ?_
  refine g_sld hX (by decide +kernel : decode code 607 = .ok (.iaload, 1)) rfl (by omega) (by omega) ?_
  refine g_aload_n (by decide +kernel : decode code 608 = .ok (.aload_n 0, 1)) rfl ?_
  refine g_iload_n (by decide +kernel : decode code 609 = .ok (.iload_n 3, 1)) rfl ?_
  refine g_iconst (v := nI 2) (by decide +kernel : decode code 610 = .ok (.iconst 2, 1)) (by decide) ?_
  refine g_iaddN (by decide +kernel : decode code 611 = .ok (.iadd, 1)) ?_
  refine g_sld hX (by decide +kernel : decode code 612 = .ok (.iaload, 1)) rfl (by omega) (by omega) ?_
  refine g_callVI [.int (xs (i + 1)), .int (xs (i + 2))] (by decide +kernel : decode code 613 = .ok (.invokevirtual 61, 3)) lk_Law_61 (st_seek hJ (xs (i + 1)) (xs (i + 2))) rfl rfl rfl rfl (Nat.le_of_ble_eq_true rfl) (Nat.le_of_ble_eq_true rfl) (fun r613 s613 h613 => ?_)
  refine g_aload_n (by decide +kernel : decode code 616 = .ok (.aload_n 2, 1)) rfl ?_
  refine g_aload_n (by decide +kernel : decode code 617 = .ok (.aload_n 0, 1)) rfl ?_
  refine g_iload_n (by decide +kernel : decode code 618 = .ok (.iload_n 3, 1)) rfl ?_
  refine g_iconst (v := nI 1) (by decide +kernel : decode code 619 = .ok (.iconst 1, 1)) (by decide) ?_
  refine g_iaddN (by decide +kernel : decode code 620 = .ok (.iadd, 1)) ?_
  refine g_sld hX (by decide +kernel : decode code 621 = .ok (.iaload, 1)) rfl (by omega) (by omega) ?_
  refine g_aload_n (by decide +kernel : decode code 622 = .ok (.aload_n 0, 1)) rfl ?_
  refine g_iload_n (by decide +kernel : decode code 623 = .ok (.iload_n 3, 1)) rfl ?_
  refine g_iconst (v := nI 2) (by decide +kernel : decode code 624 = .ok (.iconst 2, 1)) (by decide) ?_
  refine g_iaddN (by decide +kernel : decode code 625 = .ok (.iadd, 1)) ?_
  refine g_sld hX (by decide +kernel : decode code 626 = .ok (.iaload, 1)) rfl (by omega) (by omega) ?_
  refine g_callVI [.int (xs (i + 1)), .int (xs (i + 2))] (by decide +kernel : decode code 627 = .ok (.invokevirtual 64, 3)) lk_Law_64 (h613) rfl rfl rfl rfl (Nat.le_of_ble_eq_true rfl) (Nat.le_of_ble_eq_true rfl) (fun r627 s627 h627 => ?_)
  obtain ⟨e9, j9⟩ := h627
  refine g_icmp_eq (tgt := 1682) (by decide +kernel : decode code 630 = .ok (.if_icmp .eq 1052, 3)) (by decide) (fun _ => kk _ j9) (fun q => absurd e9 q)
set_option maxRecDepth 20000 in
/-- place -/
theorem law_c11 {X : CX} {b L i : Nat} {xs : Nat → Int32} {σ : Store} (hX : SX X b L xs) (hL : L ≤ 3072) (hi : i + 6 ≤ L) (hJ : Jv σ) (kk : ∀ σ', Jv σ' → G (ΛL, mt_Law, 30) X σ' [some (.ref 1300), some (.ref 0), some (.ref 43), some (.int (nI i))] [] 1682) : G (ΛL, mt_Law, 30) X σ [some (.ref 1300), some (.ref 0), some (.ref 43), some (.int (nI i))] [] 635 := by
  refine g_aload_n (by decide +kernel : decode code 635 = .ok (.aload_n 1, 1)) rfl ?_
  refine g_aload_n (by decide +kernel : decode code 636 = .ok (.aload_n 0, 1)) rfl ?_
  refine g_iload_n (by decide +kernel : decode code 637 = .ok (.iload_n 3, 1)) rfl ?_
  refine g_iconst (v := nI 1) (by decide +kernel : decode code 638 = .ok (.iconst 1, 1)) (by decide) ?_
  refine g_iaddN (by decide +kernel : decode code 639 = .ok (.iadd, 1)) ?_
  refine g_sld hX (by decide +kernel : decode code 640 = .ok (.iaload, 1)) rfl (by omega) (by omega) ?_
  refine g_aload_n (by decide +kernel : decode code 641 = .ok (.aload_n 0, 1)) rfl ?_
  refine g_iload_n (by decide +kernel : decode code 642 = .ok (.iload_n 3, 1)) rfl ?_
  refine g_iconst (v := nI 2) (by decide +kernel : decode code 643 = .ok (.iconst 2, 1)) (by decide) ?_
  refine g_iaddN (by decide +kernel : decode code 644 = .ok (.iadd, 1)) ?_
  refine g_sld hX (by decide +kernel : decode code 645 = .ok (.iaload, 1)) rfl (by omega) (by omega) ?_
  refine g_callVI [.int (xs (i + 1)), .int (xs (i + 2))] (by decide +kernel : decode code 646 = .ok (.invokevirtual 65, 3)) lk_Law_65 (st_place hJ (xs (i + 1)) (xs (i + 2))) rfl rfl rfl rfl (Nat.le_of_ble_eq_true rfl) (Nat.le_of_ble_eq_true rfl) (fun r646 s646 h646 => ?_)
  refine g_aload_n (by decide +kernel : decode code 649 = .ok (.aload_n 2, 1)) rfl ?_
  refine g_aload_n (by decide +kernel : decode code 650 = .ok (.aload_n 0, 1)) rfl ?_
  refine g_iload_n (by decide +kernel : decode code 651 = .ok (.iload_n 3, 1)) rfl ?_
  refine g_iconst (v := nI 1) (by decide +kernel : decode code 652 = .ok (.iconst 1, 1)) (by decide) ?_
  refine g_iaddN (by decide +kernel : decode code 653 = .ok (.iadd, 1)) ?_
  refine g_sld hX (by decide +kernel : decode code 654 = .ok (.iaload, 1)) rfl (by omega) (by omega) ?_
  refine g_aload_n (by decide +kernel : decode code 655 = .ok (.aload_n 0, 1)) rfl ?_
  refine g_iload_n (by decide +kernel : decode code 656 = .ok (.iload_n 3, 1)) rfl ?_
  refine g_iconst (v := nI 2) (by decide +kernel : decode code 657 = .ok (.iconst 2, 1)) (by decide) ?_
  refine g_iaddN (by decide +kernel : decode code 658 = .ok (.iadd, 1)) ?_
  refine g_sld hX (by decide +kernel : decode code 659 = .ok (.iaload, 1)) rfl (by omega) (by omega) ?_
  refine g_callVI [.int (xs (i + 1)), .int (xs (i + 2))] (by decide +kernel : decode code 660 = .ok (.invokevirtual 68, 3)) lk_Law_68 (h646) rfl rfl rfl rfl (Nat.le_of_ble_eq_true rfl) (Nat.le_of_ble_eq_true rfl) (fun r660 s660 h660 => ?_)
  obtain ⟨e9, j9⟩ := h660
  refine g_icmp_eq (tgt := 1682) (by decide +kernel : decode code 663 = .ok (.if_icmp .eq 1019, 3)) (by decide) (fun _ => kk _ j9) (fun q => absurd e9 q)
set_option maxRecDepth 20000 in
/-- cover -/
theorem law_c12 {X : CX} {b L i : Nat} {xs : Nat → Int32} {σ : Store} (hX : SX X b L xs) (hL : L ≤ 3072) (hi : i + 6 ≤ L) (hJ : Jv σ) (kk : ∀ σ', Jv σ' → G (ΛL, mt_Law, 30) X σ' [some (.ref 1300), some (.ref 0), some (.ref 43), some (.int (nI i))] [] 1682) : G (ΛL, mt_Law, 30) X σ [some (.ref 1300), some (.ref 0), some (.ref 43), some (.int (nI i))] [] 668 := by
  refine g_aload_n (by decide +kernel : decode code 668 = .ok (.aload_n 1, 1)) rfl ?_
  refine g_aload_n (by decide +kernel : decode code 669 = .ok (.aload_n 0, 1)) rfl ?_
  refine g_iload_n (by decide +kernel : decode code 670 = .ok (.iload_n 3, 1)) rfl ?_
  refine g_iconst (v := nI 1) (by decide +kernel : decode code 671 = .ok (.iconst 1, 1)) (by decide) ?_
  refine g_iaddN (by decide +kernel : decode code 672 = .ok (.iadd, 1)) ?_
  refine g_sld hX (by decide +kernel : decode code 673 = .ok (.iaload, 1)) rfl (by omega) (by omega) ?_
  refine g_aload_n (by decide +kernel : decode code 674 = .ok (.aload_n 0, 1)) rfl ?_
  refine g_iload_n (by decide +kernel : decode code 675 = .ok (.iload_n 3, 1)) rfl ?_
  refine g_iconst (v := nI 2) (by decide +kernel : decode code 676 = .ok (.iconst 2, 1)) (by decide) ?_
  refine g_iaddN (by decide +kernel : decode code 677 = .ok (.iadd, 1)) ?_
  refine g_sld hX (by decide +kernel : decode code 678 = .ok (.iaload, 1)) rfl (by omega) (by omega) ?_
  refine g_callVI [.int (xs (i + 1)), .int (xs (i + 2))] (by decide +kernel : decode code 679 = .ok (.invokevirtual 69, 3)) lk_Law_69 (st_cover hJ (xs (i + 1)) (xs (i + 2))) rfl rfl rfl rfl (Nat.le_of_ble_eq_true rfl) (Nat.le_of_ble_eq_true rfl) (fun r679 s679 h679 => ?_)
  refine g_aload_n (by decide +kernel : decode code 682 = .ok (.aload_n 2, 1)) rfl ?_
  refine g_aload_n (by decide +kernel : decode code 683 = .ok (.aload_n 0, 1)) rfl ?_
  refine g_iload_n (by decide +kernel : decode code 684 = .ok (.iload_n 3, 1)) rfl ?_
  refine g_iconst (v := nI 1) (by decide +kernel : decode code 685 = .ok (.iconst 1, 1)) (by decide) ?_
  refine g_iaddN (by decide +kernel : decode code 686 = .ok (.iadd, 1)) ?_
  refine g_sld hX (by decide +kernel : decode code 687 = .ok (.iaload, 1)) rfl (by omega) (by omega) ?_
  refine g_aload_n (by decide +kernel : decode code 688 = .ok (.aload_n 0, 1)) rfl ?_
  refine g_iload_n (by decide +kernel : decode code 689 = .ok (.iload_n 3, 1)) rfl ?_
  refine g_iconst (v := nI 2) (by decide +kernel : decode code 690 = .ok (.iconst 2, 1)) (by decide) ?_
  refine g_iaddN (by decide +kernel : decode code 691 = .ok (.iadd, 1)) ?_
  refine g_sld hX (by decide +kernel : decode code 692 = .ok (.iaload, 1)) rfl (by omega) (by omega) ?_
  refine g_callVI [.int (xs (i + 1)), .int (xs (i + 2))] (by decide +kernel : decode code 693 = .ok (.invokevirtual 72, 3)) lk_Law_72 (h679) rfl rfl rfl rfl (Nat.le_of_ble_eq_true rfl) (Nat.le_of_ble_eq_true rfl) (fun r693 s693 h693 => ?_)
  obtain ⟨e9, j9⟩ := h693
  refine g_icmp_eq (tgt := 1682) (by decide +kernel : decode code 696 = .ok (.if_icmp .eq 986, 3)) (by decide) (fun _ => kk _ j9) (fun q => absurd e9 q)
set_option maxRecDepth 20000 in
/-- years -/
theorem law_c13 {X : CX} {b L i : Nat} {xs : Nat → Int32} {σ : Store} (hX : SX X b L xs) (hL : L ≤ 3072) (hi : i + 6 ≤ L) (hJ : Jv σ) (kk : ∀ σ', Jv σ' → G (ΛL, mt_Law, 30) X σ' [some (.ref 1300), some (.ref 0), some (.ref 43), some (.int (nI i))] [] 1682) : G (ΛL, mt_Law, 30) X σ [some (.ref 1300), some (.ref 0), some (.ref 43), some (.int (nI i))] [] 701 := by
  refine g_aload_n (by decide +kernel : decode code 701 = .ok (.aload_n 1, 1)) rfl ?_
  refine g_aload_n (by decide +kernel : decode code 702 = .ok (.aload_n 0, 1)) rfl ?_
  refine g_iload_n (by decide +kernel : decode code 703 = .ok (.iload_n 3, 1)) rfl ?_
  refine g_iconst (v := nI 1) (by decide +kernel : decode code 704 = .ok (.iconst 1, 1)) (by decide) ?_
  refine g_iaddN (by decide +kernel : decode code 705 = .ok (.iadd, 1)) ?_
  refine g_sld hX (by decide +kernel : decode code 706 = .ok (.iaload, 1)) rfl (by omega) (by omega) ?_
  refine g_callVI [.int (xs (i + 1))] (by decide +kernel : decode code 707 = .ok (.invokevirtual 73, 3)) lk_Law_73 (st_years hJ (xs (i + 1))) rfl rfl rfl rfl (Nat.le_of_ble_eq_true rfl) (Nat.le_of_ble_eq_true rfl) (fun r707 s707 h707 => ?_)
  refine g_aload_n (by decide +kernel : decode code 710 = .ok (.aload_n 2, 1)) rfl ?_
  refine g_aload_n (by decide +kernel : decode code 711 = .ok (.aload_n 0, 1)) rfl ?_
  refine g_iload_n (by decide +kernel : decode code 712 = .ok (.iload_n 3, 1)) rfl ?_
  refine g_iconst (v := nI 1) (by decide +kernel : decode code 713 = .ok (.iconst 1, 1)) (by decide) ?_
  refine g_iaddN (by decide +kernel : decode code 714 = .ok (.iadd, 1)) ?_
  refine g_sld hX (by decide +kernel : decode code 715 = .ok (.iaload, 1)) rfl (by omega) (by omega) ?_
  refine g_callVI [.int (xs (i + 1))] (by decide +kernel : decode code 716 = .ok (.invokevirtual 76, 3)) lk_Law_76 (h707) rfl rfl rfl rfl (Nat.le_of_ble_eq_true rfl) (Nat.le_of_ble_eq_true rfl) (fun r716 s716 h716 => ?_)
  obtain ⟨e9, j9⟩ := h716
  refine g_icmp_eq (tgt := 1682) (by decide +kernel : decode code 719 = .ok (.if_icmp .eq 963, 3)) (by decide) (fun _ => kk _ j9) (fun q => absurd e9 q)
set_option maxRecDepth 20000 in
/-- seed -/
theorem law_c14 {X : CX} {b L i : Nat} {xs : Nat → Int32} {σ : Store} (hX : SX X b L xs) (hL : L ≤ 3072) (hi : i + 6 ≤ L) (hJ : Jv σ) (kk : ∀ σ', Jv σ' → G (ΛL, mt_Law, 30) X σ' [some (.ref 1300), some (.ref 0), some (.ref 43), some (.int (nI i))] [] 1682) : G (ΛL, mt_Law, 30) X σ [some (.ref 1300), some (.ref 0), some (.ref 43), some (.int (nI i))] [] 724 := by
  refine g_aload_n (by decide +kernel : decode code 724 = .ok (.aload_n 1, 1)) rfl ?_
  refine g_aload_n (by decide +kernel : decode code 725 = .ok (.aload_n 0, 1)) rfl ?_
  refine g_iload_n (by decide +kernel : decode code 726 = .ok (.iload_n 3, 1)) rfl ?_
  refine g_iconst (v := nI 1) (by decide +kernel : decode code 727 = .ok (.iconst 1, 1)) (by decide) ?_
  refine g_iaddN (by decide +kernel : decode code 728 = .ok (.iadd, 1)) ?_
  refine g_sld hX (by decide +kernel : decode code 729 = .ok (.iaload, 1)) rfl (by omega) (by omega) ?_
  refine g_callVI [.int (xs (i + 1))] (by decide +kernel : decode code 730 = .ok (.invokevirtual 77, 3)) lk_Law_77 (st_seed hJ (xs (i + 1))) rfl rfl rfl rfl (Nat.le_of_ble_eq_true rfl) (Nat.le_of_ble_eq_true rfl) (fun r730 s730 h730 => ?_)
  refine g_aload_n (by decide +kernel : decode code 733 = .ok (.aload_n 2, 1)) rfl ?_
  refine g_aload_n (by decide +kernel : decode code 734 = .ok (.aload_n 0, 1)) rfl ?_
  refine g_iload_n (by decide +kernel : decode code 735 = .ok (.iload_n 3, 1)) rfl ?_
  refine g_iconst (v := nI 1) (by decide +kernel : decode code 736 = .ok (.iconst 1, 1)) (by decide) ?_
  refine g_iaddN (by decide +kernel : decode code 737 = .ok (.iadd, 1)) ?_
  refine g_sld hX (by decide +kernel : decode code 738 = .ok (.iaload, 1)) rfl (by omega) (by omega) ?_
  refine g_callVI [.int (xs (i + 1))] (by decide +kernel : decode code 739 = .ok (.invokevirtual 80, 3)) lk_Law_80 (h730) rfl rfl rfl rfl (Nat.le_of_ble_eq_true rfl) (Nat.le_of_ble_eq_true rfl) (fun r739 s739 h739 => ?_)
  obtain ⟨e9, j9⟩ := h739
  refine g_icmp_eq (tgt := 1682) (by decide +kernel : decode code 742 = .ok (.if_icmp .eq 940, 3)) (by decide) (fun _ => kk _ j9) (fun q => absurd e9 q)
set_option maxRecDepth 20000 in
/-- year -/
theorem law_c15 {X : CX} {b L i : Nat} {xs : Nat → Int32} {σ : Store} (hX : SX X b L xs) (hL : L ≤ 3072) (hi : i + 6 ≤ L) (hJ : Jv σ) (kk : ∀ σ', Jv σ' → G (ΛL, mt_Law, 30) X σ' [some (.ref 1300), some (.ref 0), some (.ref 43), some (.int (nI i))] [] 1682) : G (ΛL, mt_Law, 30) X σ [some (.ref 1300), some (.ref 0), some (.ref 43), some (.int (nI i))] [] 747 := by
  refine g_aload_n (by decide +kernel : decode code 747 = .ok (.aload_n 1, 1)) rfl ?_
  refine g_callVI [] (by decide +kernel : decode code 748 = .ok (.invokevirtual 81, 3)) lk_Law_81 (st_year hJ ) rfl rfl rfl rfl (Nat.le_of_ble_eq_true rfl) (Nat.le_of_ble_eq_true rfl) (fun r748 s748 h748 => ?_)
  refine g_aload_n (by decide +kernel : decode code 751 = .ok (.aload_n 2, 1)) rfl ?_
  refine g_callVI [] (by decide +kernel : decode code 752 = .ok (.invokevirtual 84, 3)) lk_Law_84 (h748) rfl rfl rfl rfl (Nat.le_of_ble_eq_true rfl) (Nat.le_of_ble_eq_true rfl) (fun r752 s752 h752 => ?_)
  obtain ⟨e9, j9⟩ := h752
  refine g_icmp_eq (tgt := 1682) (by decide +kernel : decode code 755 = .ok (.if_icmp .eq 927, 3)) (by decide) (fun _ => kk _ j9) (fun q => absurd e9 q)
set_option maxRecDepth 20000 in
/-- nights -/
theorem law_c16 {X : CX} {b L i : Nat} {xs : Nat → Int32} {σ : Store} (hX : SX X b L xs) (hL : L ≤ 3072) (hi : i + 6 ≤ L) (hJ : Jv σ) (kk : ∀ σ', Jv σ' → G (ΛL, mt_Law, 30) X σ' [some (.ref 1300), some (.ref 0), some (.ref 43), some (.int (nI i))] [] 1682) : G (ΛL, mt_Law, 30) X σ [some (.ref 1300), some (.ref 0), some (.ref 43), some (.int (nI i))] [] 760 := by
  refine g_aload_n (by decide +kernel : decode code 760 = .ok (.aload_n 1, 1)) rfl ?_
  refine g_aload_n (by decide +kernel : decode code 761 = .ok (.aload_n 0, 1)) rfl ?_
  refine g_iload_n (by decide +kernel : decode code 762 = .ok (.iload_n 3, 1)) rfl ?_
  refine g_iconst (v := nI 1) (by decide +kernel : decode code 763 = .ok (.iconst 1, 1)) (by decide) ?_
  refine g_iaddN (by decide +kernel : decode code 764 = .ok (.iadd, 1)) ?_
  refine g_sld hX (by decide +kernel : decode code 765 = .ok (.iaload, 1)) rfl (by omega) (by omega) ?_
  refine g_callVI [.int (xs (i + 1))] (by decide +kernel : decode code 766 = .ok (.invokevirtual 85, 3)) lk_Law_85 (st_nights hJ (xs (i + 1))) rfl rfl rfl rfl (Nat.le_of_ble_eq_true rfl) (Nat.le_of_ble_eq_true rfl) (fun r766 s766 h766 => ?_)
  refine g_aload_n (by decide +kernel : decode code 769 = .ok (.aload_n 2, 1)) rfl ?_
  refine g_aload_n (by decide +kernel : decode code 770 = .ok (.aload_n 0, 1)) rfl ?_
  refine g_iload_n (by decide +kernel : decode code 771 = .ok (.iload_n 3, 1)) rfl ?_
  refine g_iconst (v := nI 1) (by decide +kernel : decode code 772 = .ok (.iconst 1, 1)) (by decide) ?_
  refine g_iaddN (by decide +kernel : decode code 773 = .ok (.iadd, 1)) ?_
  refine g_sld hX (by decide +kernel : decode code 774 = .ok (.iaload, 1)) rfl (by omega) (by omega) ?_
  refine g_callVI [.int (xs (i + 1))] (by decide +kernel : decode code 775 = .ok (.invokevirtual 88, 3)) lk_Law_88 (h766) rfl rfl rfl rfl (Nat.le_of_ble_eq_true rfl) (Nat.le_of_ble_eq_true rfl) (fun r775 s775 h775 => ?_)
  obtain ⟨e9, j9⟩ := h775
  refine g_icmp_eq (tgt := 1682) (by decide +kernel : decode code 778 = .ok (.if_icmp .eq 904, 3)) (by decide) (fun _ => kk _ j9) (fun q => absurd e9 q)
set_option maxRecDepth 20000 in
/-- state -/
theorem law_c17 {X : CX} {b L i : Nat} {xs : Nat → Int32} {σ : Store} (hX : SX X b L xs) (hL : L ≤ 3072) (hi : i + 6 ≤ L) (hJ : Jv σ) (kk : ∀ σ', Jv σ' → G (ΛL, mt_Law, 30) X σ' [some (.ref 1300), some (.ref 0), some (.ref 43), some (.int (nI i))] [] 1682) : G (ΛL, mt_Law, 30) X σ [some (.ref 1300), some (.ref 0), some (.ref 43), some (.int (nI i))] [] 783 := by
  refine g_aload_n (by decide +kernel : decode code 783 = .ok (.aload_n 1, 1)) rfl ?_
  refine g_aload_n (by decide +kernel : decode code 784 = .ok (.aload_n 0, 1)) rfl ?_
  refine g_iload_n (by decide +kernel : decode code 785 = .ok (.iload_n 3, 1)) rfl ?_
  refine g_iconst (v := nI 1) (by decide +kernel : decode code 786 = .ok (.iconst 1, 1)) (by decide) ?_
  refine g_iaddN (by decide +kernel : decode code 787 = .ok (.iadd, 1)) ?_
  refine g_sld hX (by decide +kernel : decode code 788 = .ok (.iaload, 1)) rfl (by omega) (by omega) ?_
  refine g_callVI [.int (xs (i + 1))] (by decide +kernel : decode code 789 = .ok (.invokevirtual 89, 3)) lk_Law_89 (st_state hJ (xs (i + 1))) rfl rfl rfl rfl (Nat.le_of_ble_eq_true rfl) (Nat.le_of_ble_eq_true rfl) (fun r789 s789 h789 => ?_)
  refine g_aload_n (by decide +kernel : decode code 792 = .ok (.aload_n 2, 1)) rfl ?_
  refine g_aload_n (by decide +kernel : decode code 793 = .ok (.aload_n 0, 1)) rfl ?_
  refine g_iload_n (by decide +kernel : decode code 794 = .ok (.iload_n 3, 1)) rfl ?_
  refine g_iconst (v := nI 1) (by decide +kernel : decode code 795 = .ok (.iconst 1, 1)) (by decide) ?_
  refine g_iaddN (by decide +kernel : decode code 796 = .ok (.iadd, 1)) ?_
  refine g_sld hX (by decide +kernel : decode code 797 = .ok (.iaload, 1)) rfl (by omega) (by omega) ?_
  refine g_callVI [.int (xs (i + 1))] (by decide +kernel : decode code 798 = .ok (.invokevirtual 92, 3)) lk_Law_92 (h789) rfl rfl rfl rfl (Nat.le_of_ble_eq_true rfl) (Nat.le_of_ble_eq_true rfl) (fun r798 s798 h798 => ?_)
  obtain ⟨e9, j9⟩ := h798
  refine g_icmp_eq (tgt := 1682) (by decide +kernel : decode code 801 = .ok (.if_icmp .eq 881, 3)) (by decide) (fun _ => kk _ j9) (fun q => absurd e9 q)
set_option maxRecDepth 20000 in
/-- where -/
theorem law_c18 {X : CX} {b L i : Nat} {xs : Nat → Int32} {σ : Store} (hX : SX X b L xs) (hL : L ≤ 3072) (hi : i + 6 ≤ L) (hJ : Jv σ) (kk : ∀ σ', Jv σ' → G (ΛL, mt_Law, 30) X σ' [some (.ref 1300), some (.ref 0), some (.ref 43), some (.int (nI i))] [] 1682) : G (ΛL, mt_Law, 30) X σ [some (.ref 1300), some (.ref 0), some (.ref 43), some (.int (nI i))] [] 806 := by
  refine g_aload_n (by decide +kernel : decode code 806 = .ok (.aload_n 1, 1)) rfl ?_
  refine g_aload_n (by decide +kernel : decode code 807 = .ok (.aload_n 0, 1)) rfl ?_
  refine g_iload_n (by decide +kernel : decode code 808 = .ok (.iload_n 3, 1)) rfl ?_
  refine g_iconst (v := nI 1) (by decide +kernel : decode code 809 = .ok (.iconst 1, 1)) (by decide) ?_
  refine g_iaddN (by decide +kernel : decode code 810 = .ok (.iadd, 1)) ?_
  refine g_sld hX (by decide +kernel : decode code 811 = .ok (.iaload, 1)) rfl (by omega) (by omega) ?_
  refine g_aload_n (by decide +kernel : decode code 812 = .ok (.aload_n 0, 1)) rfl ?_
  refine g_iload_n (by decide +kernel : decode code 813 = .ok (.iload_n 3, 1)) rfl ?_
  refine g_iconst (v := nI 2) (by decide +kernel : decode code 814 = .ok (.iconst 2, 1)) (by decide) ?_
  refine g_iaddN (by decide +kernel : decode code 815 = .ok (.iadd, 1)) ?_
  refine g_sld hX (by decide +kernel : decode code 816 = .ok (.iaload, 1)) rfl (by omega) (by omega) ?_
  refine g_callVI [.int (xs (i + 1)), .int (xs (i + 2))] (by decide +kernel : decode code 817 = .ok (.invokevirtual 93, 3)) lk_Law_93 (st_where hJ (xs (i + 1)) (xs (i + 2))) rfl rfl rfl rfl (Nat.le_of_ble_eq_true rfl) (Nat.le_of_ble_eq_true rfl) (fun r817 s817 h817 => ?_)
  refine g_aload_n (by decide +kernel : decode code 820 = .ok (.aload_n 2, 1)) rfl ?_
  refine g_aload_n (by decide +kernel : decode code 821 = .ok (.aload_n 0, 1)) rfl ?_
  refine g_iload_n (by decide +kernel : decode code 822 = .ok (.iload_n 3, 1)) rfl ?_
  refine g_iconst (v := nI 1) (by decide +kernel : decode code 823 = .ok (.iconst 1, 1)) (by decide) ?_
  refine g_iaddN (by decide +kernel : decode code 824 = .ok (.iadd, 1)) ?_
  refine g_sld hX (by decide +kernel : decode code 825 = .ok (.iaload, 1)) rfl (by omega) (by omega) ?_
  refine g_aload_n (by decide +kernel : decode code 826 = .ok (.aload_n 0, 1)) rfl ?_
  refine g_iload_n (by decide +kernel : decode code 827 = .ok (.iload_n 3, 1)) rfl ?_
  refine g_iconst (v := nI 2) (by decide +kernel : decode code 828 = .ok (.iconst 2, 1)) (by decide) ?_
  refine g_iaddN (by decide +kernel : decode code 829 = .ok (.iadd, 1)) ?_
  refine g_sld hX (by decide +kernel : decode code 830 = .ok (.iaload, 1)) rfl (by omega) (by omega) ?_
  refine g_callVI [.int (xs (i + 1)), .int (xs (i + 2))] (by decide +kernel : decode code 831 = .ok (.invokevirtual 96, 3)) lk_Law_96 (h817) rfl rfl rfl rfl (Nat.le_of_ble_eq_true rfl) (Nat.le_of_ble_eq_true rfl) (fun r831 s831 h831 => ?_)
  obtain ⟨e9, j9⟩ := h831
  refine g_icmp_eq (tgt := 1682) (by decide +kernel : decode code 834 = .ok (.if_icmp .eq 848, 3)) (by decide) (fun _ => kk _ j9) (fun q => absurd e9 q)
set_option maxRecDepth 20000 in
/-- shown -/
theorem law_c19 {X : CX} {b L i : Nat} {xs : Nat → Int32} {σ : Store} (hX : SX X b L xs) (hL : L ≤ 3072) (hi : i + 6 ≤ L) (hJ : Jv σ) (kk : ∀ σ', Jv σ' → G (ΛL, mt_Law, 30) X σ' [some (.ref 1300), some (.ref 0), some (.ref 43), some (.int (nI i))] [] 1682) : G (ΛL, mt_Law, 30) X σ [some (.ref 1300), some (.ref 0), some (.ref 43), some (.int (nI i))] [] 839 := by
  refine g_aload_n (by decide +kernel : decode code 839 = .ok (.aload_n 1, 1)) rfl ?_
  refine g_aload_n (by decide +kernel : decode code 840 = .ok (.aload_n 0, 1)) rfl ?_
  refine g_iload_n (by decide +kernel : decode code 841 = .ok (.iload_n 3, 1)) rfl ?_
  refine g_iconst (v := nI 1) (by decide +kernel : decode code 842 = .ok (.iconst 1, 1)) (by decide) ?_
  refine g_iaddN (by decide +kernel : decode code 843 = .ok (.iadd, 1)) ?_
  refine g_sld hX (by decide +kernel : decode code 844 = .ok (.iaload, 1)) rfl (by omega) (by omega) ?_
  refine g_callVI [.int (xs (i + 1))] (by decide +kernel : decode code 845 = .ok (.invokevirtual 97, 3)) lk_Law_97 (st_shown hJ (xs (i + 1))) rfl rfl rfl rfl (Nat.le_of_ble_eq_true rfl) (Nat.le_of_ble_eq_true rfl) (fun r845 s845 h845 => ?_)
  refine g_aload_n (by decide +kernel : decode code 848 = .ok (.aload_n 2, 1)) rfl ?_
  refine g_aload_n (by decide +kernel : decode code 849 = .ok (.aload_n 0, 1)) rfl ?_
  refine g_iload_n (by decide +kernel : decode code 850 = .ok (.iload_n 3, 1)) rfl ?_
  refine g_iconst (v := nI 1) (by decide +kernel : decode code 851 = .ok (.iconst 1, 1)) (by decide) ?_
  refine g_iaddN (by decide +kernel : decode code 852 = .ok (.iadd, 1)) ?_
  refine g_sld hX (by decide +kernel : decode code 853 = .ok (.iaload, 1)) rfl (by omega) (by omega) ?_
  refine g_callVI [.int (xs (i + 1))] (by decide +kernel : decode code 854 = .ok (.invokevirtual 100, 3)) lk_Law_100 (h845) rfl rfl rfl rfl (Nat.le_of_ble_eq_true rfl) (Nat.le_of_ble_eq_true rfl) (fun r854 s854 h854 => ?_)
  obtain ⟨e9, j9⟩ := h854
  refine g_icmp_eq (tgt := 1682) (by decide +kernel : decode code 857 = .ok (.if_icmp .eq 825, 3)) (by decide) (fun _ => kk _ j9) (fun q => absurd e9 q)
set_option maxRecDepth 20000 in
/-- all -/
theorem law_c20 {X : CX} {b L i : Nat} {xs : Nat → Int32} {σ : Store} (hX : SX X b L xs) (hL : L ≤ 3072) (hi : i + 6 ≤ L) (hJ : Jv σ) (kk : ∀ σ', Jv σ' → G (ΛL, mt_Law, 30) X σ' [some (.ref 1300), some (.ref 0), some (.ref 43), some (.int (nI i))] [] 1682) : G (ΛL, mt_Law, 30) X σ [some (.ref 1300), some (.ref 0), some (.ref 43), some (.int (nI i))] [] 862 := by
  refine g_aload_n (by decide +kernel : decode code 862 = .ok (.aload_n 1, 1)) rfl ?_
  refine g_callVI [] (by decide +kernel : decode code 863 = .ok (.invokevirtual 101, 3)) lk_Law_101 (st_all hJ ) rfl rfl rfl rfl (Nat.le_of_ble_eq_true rfl) (Nat.le_of_ble_eq_true rfl) (fun r863 s863 h863 => ?_)
  refine g_aload_n (by decide +kernel : decode code 866 = .ok (.aload_n 2, 1)) rfl ?_
  refine g_callVI [] (by decide +kernel : decode code 867 = .ok (.invokevirtual 104, 3)) lk_Law_104 (h863) rfl rfl rfl rfl (Nat.le_of_ble_eq_true rfl) (Nat.le_of_ble_eq_true rfl) (fun r867 s867 h867 => ?_)
  obtain ⟨e9, j9⟩ := h867
  refine g_icmp_eq (tgt := 1682) (by decide +kernel : decode code 870 = .ok (.if_icmp .eq 812, 3)) (by decide) (fun _ => kk _ j9) (fun q => absurd e9 q)
set_option maxRecDepth 20000 in
/-- finder -/
theorem law_c21 {X : CX} {b L i : Nat} {xs : Nat → Int32} {σ : Store} (hX : SX X b L xs) (hL : L ≤ 3072) (hi : i + 6 ≤ L) (hJ : Jv σ) (kk : ∀ σ', Jv σ' → G (ΛL, mt_Law, 30) X σ' [some (.ref 1300), some (.ref 0), some (.ref 43), some (.int (nI i))] [] 1682) : G (ΛL, mt_Law, 30) X σ [some (.ref 1300), some (.ref 0), some (.ref 43), some (.int (nI i))] [] 875 := by
  refine g_aload_n (by decide +kernel : decode code 875 = .ok (.aload_n 1, 1)) rfl ?_
  refine g_aload_n (by decide +kernel : decode code 876 = .ok (.aload_n 0, 1)) rfl ?_
  refine g_iload_n (by decide +kernel : decode code 877 = .ok (.iload_n 3, 1)) rfl ?_
  refine g_iconst (v := nI 1) (by decide +kernel : decode code 878 = .ok (.iconst 1, 1)) (by decide) ?_
  refine g_iaddN (by decide +kernel : decode code 879 = .ok (.iadd, 1)) ?_
  refine g_sld hX (by decide +kernel : decode code 880 = .ok (.iaload, 1)) rfl (by omega) (by omega) ?_
  refine g_callVI [.int (xs (i + 1))] (by decide +kernel : decode code 881 = .ok (.invokevirtual 105, 3)) lk_Law_105 (st_finder hJ (xs (i + 1))) rfl rfl rfl rfl (Nat.le_of_ble_eq_true rfl) (Nat.le_of_ble_eq_true rfl) (fun r881 s881 h881 => ?_)
  refine g_aload_n (by decide +kernel : decode code 884 = .ok (.aload_n 2, 1)) rfl ?_
  refine g_aload_n (by decide +kernel : decode code 885 = .ok (.aload_n 0, 1)) rfl ?_
  refine g_iload_n (by decide +kernel : decode code 886 = .ok (.iload_n 3, 1)) rfl ?_
  refine g_iconst (v := nI 1) (by decide +kernel : decode code 887 = .ok (.iconst 1, 1)) (by decide) ?_
  refine g_iaddN (by decide +kernel : decode code 888 = .ok (.iadd, 1)) ?_
  refine g_sld hX (by decide +kernel : decode code 889 = .ok (.iaload, 1)) rfl (by omega) (by omega) ?_
  refine g_callVI [.int (xs (i + 1))] (by decide +kernel : decode code 890 = .ok (.invokevirtual 108, 3)) lk_Law_108 (h881) rfl rfl rfl rfl (Nat.le_of_ble_eq_true rfl) (Nat.le_of_ble_eq_true rfl) (fun r890 s890 h890 => ?_)
  obtain ⟨e9, j9⟩ := h890
  refine g_icmp_eq (tgt := 1682) (by decide +kernel : decode code 893 = .ok (.if_icmp .eq 789, 3)) (by decide) (fun _ => kk _ j9) (fun q => absurd e9 q)
set_option maxRecDepth 20000 in
/-- safeFor -/
theorem law_c22 {X : CX} {b L i : Nat} {xs : Nat → Int32} {σ : Store} (hX : SX X b L xs) (hL : L ≤ 3072) (hi : i + 6 ≤ L) (hJ : Jv σ) (kk : ∀ σ', Jv σ' → G (ΛL, mt_Law, 30) X σ' [some (.ref 1300), some (.ref 0), some (.ref 43), some (.int (nI i))] [] 1682) : G (ΛL, mt_Law, 30) X σ [some (.ref 1300), some (.ref 0), some (.ref 43), some (.int (nI i))] [] 898 := by
  refine g_aload_n (by decide +kernel : decode code 898 = .ok (.aload_n 1, 1)) rfl ?_
  refine g_aload_n (by decide +kernel : decode code 899 = .ok (.aload_n 0, 1)) rfl ?_
  refine g_iload_n (by decide +kernel : decode code 900 = .ok (.iload_n 3, 1)) rfl ?_
  refine g_iconst (v := nI 1) (by decide +kernel : decode code 901 = .ok (.iconst 1, 1)) (by decide) ?_
  refine g_iaddN (by decide +kernel : decode code 902 = .ok (.iadd, 1)) ?_
  refine g_sld hX (by decide +kernel : decode code 903 = .ok (.iaload, 1)) rfl (by omega) (by omega) ?_
  refine g_callVI [.int (xs (i + 1))] (by decide +kernel : decode code 904 = .ok (.invokevirtual 109, 3)) lk_Law_109 (st_safeFor hJ (xs (i + 1))) rfl rfl rfl rfl (Nat.le_of_ble_eq_true rfl) (Nat.le_of_ble_eq_true rfl) (fun r904 s904 h904 => ?_)
  refine g_aload_n (by decide +kernel : decode code 907 = .ok (.aload_n 2, 1)) rfl ?_
  refine g_aload_n (by decide +kernel : decode code 908 = .ok (.aload_n 0, 1)) rfl ?_
  refine g_iload_n (by decide +kernel : decode code 909 = .ok (.iload_n 3, 1)) rfl ?_
  refine g_iconst (v := nI 1) (by decide +kernel : decode code 910 = .ok (.iconst 1, 1)) (by decide) ?_
  refine g_iaddN (by decide +kernel : decode code 911 = .ok (.iadd, 1)) ?_
  refine g_sld hX (by decide +kernel : decode code 912 = .ok (.iaload, 1)) rfl (by omega) (by omega) ?_
  refine g_callVI [.int (xs (i + 1))] (by decide +kernel : decode code 913 = .ok (.invokevirtual 112, 3)) lk_Law_112 (h904) rfl rfl rfl rfl (Nat.le_of_ble_eq_true rfl) (Nat.le_of_ble_eq_true rfl) (fun r913 s913 h913 => ?_)
  obtain ⟨e9, j9⟩ := h913
  refine g_icmp_eq (tgt := 1682) (by decide +kernel : decode code 916 = .ok (.if_icmp .eq 766, 3)) (by decide) (fun _ => kk _ j9) (fun q => absurd e9 q)
set_option maxRecDepth 20000 in
/-- kindFor -/
theorem law_c23 {X : CX} {b L i : Nat} {xs : Nat → Int32} {σ : Store} (hX : SX X b L xs) (hL : L ≤ 3072) (hi : i + 6 ≤ L) (hJ : Jv σ) (kk : ∀ σ', Jv σ' → G (ΛL, mt_Law, 30) X σ' [some (.ref 1300), some (.ref 0), some (.ref 43), some (.int (nI i))] [] 1682) : G (ΛL, mt_Law, 30) X σ [some (.ref 1300), some (.ref 0), some (.ref 43), some (.int (nI i))] [] 921 := by
  refine g_aload_n (by decide +kernel : decode code 921 = .ok (.aload_n 1, 1)) rfl ?_
  refine g_aload_n (by decide +kernel : decode code 922 = .ok (.aload_n 0, 1)) rfl ?_
  refine g_iload_n (by decide +kernel : decode code 923 = .ok (.iload_n 3, 1)) rfl ?_
  refine g_iconst (v := nI 1) (by decide +kernel : decode code 924 = .ok (.iconst 1, 1)) (by decide) ?_
  refine g_iaddN (by decide +kernel : decode code 925 = .ok (.iadd, 1)) ?_
  refine g_sld hX (by decide +kernel : decode code 926 = .ok (.iaload, 1)) rfl (by omega) (by omega) ?_
  refine g_callVI [.int (xs (i + 1))] (by decide +kernel : decode code 927 = .ok (.invokevirtual 113, 3)) lk_Law_113 (st_kindFor hJ (xs (i + 1))) rfl rfl rfl rfl (Nat.le_of_ble_eq_true rfl) (Nat.le_of_ble_eq_true rfl) (fun r927 s927 h927 => ?_)
  refine g_aload_n (by decide +kernel : decode code 930 = .ok (.aload_n 2, 1)) rfl ?_
  refine g_aload_n (by decide +kernel : decode code 931 = .ok (.aload_n 0, 1)) rfl ?_
  refine g_iload_n (by decide +kernel : decode code 932 = .ok (.iload_n 3, 1)) rfl ?_
  refine g_iconst (v := nI 1) (by decide +kernel : decode code 933 = .ok (.iconst 1, 1)) (by decide) ?_
  refine g_iaddN (by decide +kernel : decode code 934 = .ok (.iadd, 1)) ?_
  refine g_sld hX (by decide +kernel : decode code 935 = .ok (.iaload, 1)) rfl (by omega) (by omega) ?_
  refine g_callVI [.int (xs (i + 1))] (by decide +kernel : decode code 936 = .ok (.invokevirtual 116, 3)) lk_Law_116 (h927) rfl rfl rfl rfl (Nat.le_of_ble_eq_true rfl) (Nat.le_of_ble_eq_true rfl) (fun r936 s936 h936 => ?_)
  obtain ⟨e9, j9⟩ := h936
  refine g_icmp_eq (tgt := 1682) (by decide +kernel : decode code 939 = .ok (.if_icmp .eq 743, 3)) (by decide) (fun _ => kk _ j9) (fun q => absurd e9 q)
set_option maxRecDepth 20000 in
/-- witFor -/
theorem law_c24 {X : CX} {b L i : Nat} {xs : Nat → Int32} {σ : Store} (hX : SX X b L xs) (hL : L ≤ 3072) (hi : i + 6 ≤ L) (hJ : Jv σ) (kk : ∀ σ', Jv σ' → G (ΛL, mt_Law, 30) X σ' [some (.ref 1300), some (.ref 0), some (.ref 43), some (.int (nI i))] [] 1682) : G (ΛL, mt_Law, 30) X σ [some (.ref 1300), some (.ref 0), some (.ref 43), some (.int (nI i))] [] 944 := by
  refine g_aload_n (by decide +kernel : decode code 944 = .ok (.aload_n 1, 1)) rfl ?_
  refine g_aload_n (by decide +kernel : decode code 945 = .ok (.aload_n 0, 1)) rfl ?_
  refine g_iload_n (by decide +kernel : decode code 946 = .ok (.iload_n 3, 1)) rfl ?_
  refine g_iconst (v := nI 1) (by decide +kernel : decode code 947 = .ok (.iconst 1, 1)) (by decide) ?_
  refine g_iaddN (by decide +kernel : decode code 948 = .ok (.iadd, 1)) ?_
  refine g_sld hX (by decide +kernel : decode code 949 = .ok (.iaload, 1)) rfl (by omega) (by omega) ?_
  refine g_aload_n (by decide +kernel : decode code 950 = .ok (.aload_n 0, 1)) rfl ?_
  refine g_iload_n (by decide +kernel : decode code 951 = .ok (.iload_n 3, 1)) rfl ?_
  refine g_iconst (v := nI 2) (by decide +kernel : decode code 952 = .ok (.iconst 2, 1)) (by decide) ?_
  refine g_iaddN (by decide +kernel : decode code 953 = .ok (.iadd, 1)) ?_
  refine g_sld hX (by decide +kernel : decode code 954 = .ok (.iaload, 1)) rfl (by omega) (by omega) ?_
  refine g_callVI [.int (xs (i + 1)), .int (xs (i + 2))] (by decide +kernel : decode code 955 = .ok (.invokevirtual 117, 3)) lk_Law_117 (st_witFor hJ (xs (i + 1)) (xs (i + 2))) rfl rfl rfl rfl (Nat.le_of_ble_eq_true rfl) (Nat.le_of_ble_eq_true rfl) (fun r955 s955 h955 => ?_)
  refine g_aload_n (by decide +kernel : decode code 958 = .ok (.aload_n 2, 1)) rfl ?_
  refine g_aload_n (by decide +kernel : decode code 959 = .ok (.aload_n 0, 1)) rfl ?_
  refine g_iload_n (by decide +kernel : decode code 960 = .ok (.iload_n 3, 1)) rfl ?_
  refine g_iconst (v := nI 1) (by decide +kernel : decode code 961 = .ok (.iconst 1, 1)) (by decide) ?_
  refine g_iaddN (by decide +kernel : decode code 962 = .ok (.iadd, 1)) ?_
  refine g_sld hX (by decide +kernel : decode code 963 = .ok (.iaload, 1)) rfl (by omega) (by omega) ?_
  refine g_aload_n (by decide +kernel : decode code 964 = .ok (.aload_n 0, 1)) rfl ?_
  refine g_iload_n (by decide +kernel : decode code 965 = .ok (.iload_n 3, 1)) rfl ?_
  refine g_iconst (v := nI 2) (by decide +kernel : decode code 966 = .ok (.iconst 2, 1)) (by decide) ?_
  refine g_iaddN (by decide +kernel : decode code 967 = .ok (.iadd, 1)) ?_
  refine g_sld hX (by decide +kernel : decode code 968 = .ok (.iaload, 1)) rfl (by omega) (by omega) ?_
  refine g_callVI [.int (xs (i + 1)), .int (xs (i + 2))] (by decide +kernel : decode code 969 = .ok (.invokevirtual 120, 3)) lk_Law_120 (h955) rfl rfl rfl rfl (Nat.le_of_ble_eq_true rfl) (Nat.le_of_ble_eq_true rfl) (fun r969 s969 h969 => ?_)
  obtain ⟨e9, j9⟩ := h969
  refine g_icmp_eq (tgt := 1682) (by decide +kernel : decode code 972 = .ok (.if_icmp .eq 710, 3)) (by decide) (fun _ => kk _ j9) (fun q => absurd e9 q)
set_option maxRecDepth 20000 in
/-- needed -/
theorem law_c25 {X : CX} {b L i : Nat} {xs : Nat → Int32} {σ : Store} (hX : SX X b L xs) (hL : L ≤ 3072) (hi : i + 6 ≤ L) (hJ : Jv σ) (kk : ∀ σ', Jv σ' → G (ΛL, mt_Law, 30) X σ' [some (.ref 1300), some (.ref 0), some (.ref 43), some (.int (nI i))] [] 1682) : G (ΛL, mt_Law, 30) X σ [some (.ref 1300), some (.ref 0), some (.ref 43), some (.int (nI i))] [] 977 := by
  refine g_aload_n (by decide +kernel : decode code 977 = .ok (.aload_n 1, 1)) rfl ?_
  refine g_aload_n (by decide +kernel : decode code 978 = .ok (.aload_n 0, 1)) rfl ?_
  refine g_iload_n (by decide +kernel : decode code 979 = .ok (.iload_n 3, 1)) rfl ?_
  refine g_iconst (v := nI 1) (by decide +kernel : decode code 980 = .ok (.iconst 1, 1)) (by decide) ?_
  refine g_iaddN (by decide +kernel : decode code 981 = .ok (.iadd, 1)) ?_
  refine g_sld hX (by decide +kernel : decode code 982 = .ok (.iaload, 1)) rfl (by omega) (by omega) ?_
  refine g_callVI [.int (xs (i + 1))] (by decide +kernel : decode code 983 = .ok (.invokevirtual 121, 3)) lk_Law_121 (st_needed hJ (xs (i + 1))) rfl rfl rfl rfl (Nat.le_of_ble_eq_true rfl) (Nat.le_of_ble_eq_true rfl) (fun r983 s983 h983 => ?_)
  refine g_aload_n (by decide +kernel : decode code 986 = .ok (.aload_n 2, 1)) rfl ?_
  refine g_aload_n (by decide +kernel : decode code 987 = .ok (.aload_n 0, 1)) rfl ?_
  refine g_iload_n (by decide +kernel : decode code 988 = .ok (.iload_n 3, 1)) rfl ?_
  refine g_iconst (v := nI 1) (by decide +kernel : decode code 989 = .ok (.iconst 1, 1)) (by decide) ?_
  refine g_iaddN (by decide +kernel : decode code 990 = .ok (.iadd, 1)) ?_
  refine g_sld hX (by decide +kernel : decode code 991 = .ok (.iaload, 1)) rfl (by omega) (by omega) ?_
  refine g_callVI [.int (xs (i + 1))] (by decide +kernel : decode code 992 = .ok (.invokevirtual 124, 3)) lk_Law_124 (h983) rfl rfl rfl rfl (Nat.le_of_ble_eq_true rfl) (Nat.le_of_ble_eq_true rfl) (fun r992 s992 h992 => ?_)
  obtain ⟨e9, j9⟩ := h992
  refine g_icmp_eq (tgt := 1682) (by decide +kernel : decode code 995 = .ok (.if_icmp .eq 687, 3)) (by decide) (fun _ => kk _ j9) (fun q => absurd e9 q)
set_option maxRecDepth 20000 in
/-- fewest -/
theorem law_c26 {X : CX} {b L i : Nat} {xs : Nat → Int32} {σ : Store} (hX : SX X b L xs) (hL : L ≤ 3072) (hi : i + 6 ≤ L) (hJ : Jv σ) (kk : ∀ σ', Jv σ' → G (ΛL, mt_Law, 30) X σ' [some (.ref 1300), some (.ref 0), some (.ref 43), some (.int (nI i))] [] 1682) : G (ΛL, mt_Law, 30) X σ [some (.ref 1300), some (.ref 0), some (.ref 43), some (.int (nI i))] [] 1000 := by
  refine g_aload_n (by decide +kernel : decode code 1000 = .ok (.aload_n 1, 1)) rfl ?_
  refine g_aload_n (by decide +kernel : decode code 1001 = .ok (.aload_n 0, 1)) rfl ?_
  refine g_iload_n (by decide +kernel : decode code 1002 = .ok (.iload_n 3, 1)) rfl ?_
  refine g_iconst (v := nI 1) (by decide +kernel : decode code 1003 = .ok (.iconst 1, 1)) (by decide) ?_
  refine g_iaddN (by decide +kernel : decode code 1004 = .ok (.iadd, 1)) ?_
  refine g_sld hX (by decide +kernel : decode code 1005 = .ok (.iaload, 1)) rfl (by omega) (by omega) ?_
  refine g_aload_n (by decide +kernel : decode code 1006 = .ok (.aload_n 0, 1)) rfl ?_
  refine g_iload_n (by decide +kernel : decode code 1007 = .ok (.iload_n 3, 1)) rfl ?_
  refine g_iconst (v := nI 2) (by decide +kernel : decode code 1008 = .ok (.iconst 2, 1)) (by decide) ?_
  refine g_iaddN (by decide +kernel : decode code 1009 = .ok (.iadd, 1)) ?_
  refine g_sld hX (by decide +kernel : decode code 1010 = .ok (.iaload, 1)) rfl (by omega) (by omega) ?_
  refine g_callVI [.int (xs (i + 1)), .int (xs (i + 2))] (by decide +kernel : decode code 1011 = .ok (.invokevirtual 125, 3)) lk_Law_125 (st_fewest hJ (xs (i + 1)) (xs (i + 2))) rfl rfl rfl rfl (Nat.le_of_ble_eq_true rfl) (Nat.le_of_ble_eq_true rfl) (fun r1011 s1011 h1011 => ?_)
  refine g_aload_n (by decide +kernel : decode code 1014 = .ok (.aload_n 2, 1)) rfl ?_
  refine g_aload_n (by decide +kernel : decode code 1015 = .ok (.aload_n 0, 1)) rfl ?_
  refine g_iload_n (by decide +kernel : decode code 1016 = .ok (.iload_n 3, 1)) rfl ?_
  refine g_iconst (v := nI 1) (by decide +kernel : decode code 1017 = .ok (.iconst 1, 1)) (by decide) ?_
  refine g_iaddN (by decide +kernel : decode code 1018 = .ok (.iadd, 1)) ?_
  refine g_sld hX (by decide +kernel : decode code 1019 = .ok (.iaload, 1)) rfl (by omega) (by omega) ?_
  refine g_aload_n (by decide +kernel : decode code 1020 = .ok (.aload_n 0, 1)) rfl ?_
  refine g_iload_n (by decide +kernel : decode code 1021 = .ok (.iload_n 3, 1)) rfl ?_
  refine g_iconst (v := nI 2) (by decide +kernel : decode code 1022 = .ok (.iconst 2, 1)) (by decide) ?_
  refine g_iaddN (by decide +kernel : decode code 1023 = .ok (.iadd, 1)) ?_
  refine g_sld hX (by decide +kernel : decode code 1024 = .ok (.iaload, 1)) rfl (by omega) (by omega) ?_
  refine g_callVI [.int (xs (i + 1)), .int (xs (i + 2))] (by decide +kernel : decode code 1025 = .ok (.invokevirtual 128, 3)) lk_Law_128 (h1011) rfl rfl rfl rfl (Nat.le_of_ble_eq_true rfl) (Nat.le_of_ble_eq_true rfl) (fun r1025 s1025 h1025 => ?_)
  obtain ⟨e9, j9⟩ := h1025
  refine g_icmp_eq (tgt := 1682) (by decide +kernel : decode code 1028 = .ok (.if_icmp .eq 654, 3)) (by decide) (fun _ => kk _ j9) (fun q => absurd e9 q)
set_option maxRecDepth 20000 in
/-- round -/
theorem law_c27 {X : CX} {b L i : Nat} {xs : Nat → Int32} {σ : Store} (hX : SX X b L xs) (hL : L ≤ 3072) (hi : i + 6 ≤ L) (hJ : Jv σ) (kk : ∀ σ', Jv σ' → G (ΛL, mt_Law, 30) X σ' [some (.ref 1300), some (.ref 0), some (.ref 43), some (.int (nI i))] [] 1682) : G (ΛL, mt_Law, 30) X σ [some (.ref 1300), some (.ref 0), some (.ref 43), some (.int (nI i))] [] 1033 := by
  refine g_aload_n (by decide +kernel : decode code 1033 = .ok (.aload_n 1, 1)) rfl ?_
  refine g_aload_n (by decide +kernel : decode code 1034 = .ok (.aload_n 0, 1)) rfl ?_
  refine g_iload_n (by decide +kernel : decode code 1035 = .ok (.iload_n 3, 1)) rfl ?_
  refine g_iconst (v := nI 1) (by decide +kernel : decode code 1036 = .ok (.iconst 1, 1)) (by decide) ?_
  refine g_iaddN (by decide +kernel : decode code 1037 = .ok (.iadd, 1)) ?_
  refine g_sld hX (by decide +kernel : decode code 1038 = .ok (.iaload, 1)) rfl (by omega) (by omega) ?_
  refine g_callVI [.int (xs (i + 1))] (by decide +kernel : decode code 1039 = .ok (.invokevirtual 129, 3)) lk_Law_129 (st_round hJ (xs (i + 1))) rfl rfl rfl rfl (Nat.le_of_ble_eq_true rfl) (Nat.le_of_ble_eq_true rfl) (fun r1039 s1039 h1039 => ?_)
  refine g_aload_n (by decide +kernel : decode code 1042 = .ok (.aload_n 2, 1)) rfl ?_
  refine g_aload_n (by decide +kernel : decode code 1043 = .ok (.aload_n 0, 1)) rfl ?_
  refine g_iload_n (by decide +kernel : decode code 1044 = .ok (.iload_n 3, 1)) rfl ?_
  refine g_iconst (v := nI 1) (by decide +kernel : decode code 1045 = .ok (.iconst 1, 1)) (by decide) ?_
  refine g_iaddN (by decide +kernel : decode code 1046 = .ok (.iadd, 1)) ?_
  refine g_sld hX (by decide +kernel : decode code 1047 = .ok (.iaload, 1)) rfl (by omega) (by omega) ?_
  refine g_callVI [.int (xs (i + 1))] (by decide +kernel : decode code 1048 = .ok (.invokevirtual 132, 3)) lk_Law_132 (h1039) rfl rfl rfl rfl (Nat.le_of_ble_eq_true rfl) (Nat.le_of_ble_eq_true rfl) (fun r1048 s1048 h1048 => ?_)
  obtain ⟨e9, j9⟩ := h1048
  refine g_icmp_eq (tgt := 1682) (by decide +kernel : decode code 1051 = .ok (.if_icmp .eq 631, 3)) (by decide) (fun _ => kk _ j9) (fun q => absurd e9 q)
set_option maxRecDepth 20000 in
/-- fits -/
theorem law_c28 {X : CX} {b L i : Nat} {xs : Nat → Int32} {σ : Store} (hX : SX X b L xs) (hL : L ≤ 3072) (hi : i + 6 ≤ L) (hJ : Jv σ) (kk : ∀ σ', Jv σ' → G (ΛL, mt_Law, 30) X σ' [some (.ref 1300), some (.ref 0), some (.ref 43), some (.int (nI i))] [] 1682) : G (ΛL, mt_Law, 30) X σ [some (.ref 1300), some (.ref 0), some (.ref 43), some (.int (nI i))] [] 1056 := by
  refine g_aload_n (by decide +kernel : decode code 1056 = .ok (.aload_n 1, 1)) rfl ?_
  refine g_aload_n (by decide +kernel : decode code 1057 = .ok (.aload_n 0, 1)) rfl ?_
  refine g_iload_n (by decide +kernel : decode code 1058 = .ok (.iload_n 3, 1)) rfl ?_
  refine g_iconst (v := nI 1) (by decide +kernel : decode code 1059 = .ok (.iconst 1, 1)) (by decide) ?_
  refine g_iaddN (by decide +kernel : decode code 1060 = .ok (.iadd, 1)) ?_
  refine g_sld hX (by decide +kernel : decode code 1061 = .ok (.iaload, 1)) rfl (by omega) (by omega) ?_
  refine g_aload_n (by decide +kernel : decode code 1062 = .ok (.aload_n 0, 1)) rfl ?_
  refine g_iload_n (by decide +kernel : decode code 1063 = .ok (.iload_n 3, 1)) rfl ?_
  refine g_iconst (v := nI 2) (by decide +kernel : decode code 1064 = .ok (.iconst 2, 1)) (by decide) ?_
  refine g_iaddN (by decide +kernel : decode code 1065 = .ok (.iadd, 1)) ?_
  refine g_sld hX (by decide +kernel : decode code 1066 = .ok (.iaload, 1)) rfl (by omega) (by omega) ?_
  refine g_aload_n (by decide +kernel : decode code 1067 = .ok (.aload_n 0, 1)) rfl ?_
  refine g_iload_n (by decide +kernel : decode code 1068 = .ok (.iload_n 3, 1)) rfl ?_
  refine g_iconst (v := nI 3) (by decide +kernel : decode code 1069 = .ok (.iconst 3, 1)) (by decide) ?_
  refine g_iaddN (by decide +kernel : decode code 1070 = .ok (.iadd, 1)) ?_
  refine g_sld hX (by decide +kernel : decode code 1071 = .ok (.iaload, 1)) rfl (by omega) (by omega) ?_
  refine g_callVI [.int (xs (i + 1)), .int (xs (i + 2)), .int (xs (i + 3))] (by decide +kernel : decode code 1072 = .ok (.invokevirtual 133, 3)) lk_Law_133 (st_fits hJ (xs (i + 1)) (xs (i + 2)) (xs (i + 3))) rfl rfl rfl rfl (Nat.le_of_ble_eq_true rfl) (Nat.le_of_ble_eq_true rfl) (fun r1072 s1072 h1072 => ?_)
  refine g_aload_n (by decide +kernel : decode code 1075 = .ok (.aload_n 2, 1)) rfl ?_
  refine g_aload_n (by decide +kernel : decode code 1076 = .ok (.aload_n 0, 1)) rfl ?_
  refine g_iload_n (by decide +kernel : decode code 1077 = .ok (.iload_n 3, 1)) rfl ?_
  refine g_iconst (v := nI 1) (by decide +kernel : decode code 1078 = .ok (.iconst 1, 1)) (by decide) ?_
  refine g_iaddN (by decide +kernel : decode code 1079 = .ok (.iadd, 1)) ?_
  refine g_sld hX (by decide +kernel : decode code 1080 = .ok (.iaload, 1)) rfl (by omega) (by omega) ?_
  refine g_aload_n (by decide +kernel : decode code 1081 = .ok (.aload_n 0, 1)) rfl ?_
  refine g_iload_n (by decide +kernel : decode code 1082 = .ok (.iload_n 3, 1)) rfl ?_
  refine g_iconst (v := nI 2) (by decide +kernel : decode code 1083 = .ok (.iconst 2, 1)) (by decide) ?_
  refine g_iaddN (by decide +kernel : decode code 1084 = .ok (.iadd, 1)) ?_
  refine g_sld hX (by decide +kernel : decode code 1085 = .ok (.iaload, 1)) rfl (by omega) (by omega) ?_
  refine g_aload_n (by decide +kernel : decode code 1086 = .ok (.aload_n 0, 1)) rfl ?_
  refine g_iload_n (by decide +kernel : decode code 1087 = .ok (.iload_n 3, 1)) rfl ?_
  refine g_iconst (v := nI 3) (by decide +kernel : decode code 1088 = .ok (.iconst 3, 1)) (by decide) ?_
  refine g_iaddN (by decide +kernel : decode code 1089 = .ok (.iadd, 1)) ?_
  refine g_sld hX (by decide +kernel : decode code 1090 = .ok (.iaload, 1)) rfl (by omega) (by omega) ?_
  refine g_callVI [.int (xs (i + 1)), .int (xs (i + 2)), .int (xs (i + 3))] (by decide +kernel : decode code 1091 = .ok (.invokevirtual 136, 3)) lk_Law_136 (h1072) rfl rfl rfl rfl (Nat.le_of_ble_eq_true rfl) (Nat.le_of_ble_eq_true rfl) (fun r1091 s1091 h1091 => ?_)
  obtain ⟨e9, j9⟩ := h1091
  refine g_icmp_eq (tgt := 1682) (by decide +kernel : decode code 1094 = .ok (.if_icmp .eq 588, 3)) (by decide) (fun _ => kk _ j9) (fun q => absurd e9 q)
set_option maxRecDepth 20000 in
/-- odds -/
theorem law_c29 {X : CX} {b L i : Nat} {xs : Nat → Int32} {σ : Store} (hX : SX X b L xs) (hL : L ≤ 3072) (hi : i + 6 ≤ L) (hJ : Jv σ) (kk : ∀ σ', Jv σ' → G (ΛL, mt_Law, 30) X σ' [some (.ref 1300), some (.ref 0), some (.ref 43), some (.int (nI i))] [] 1682) : G (ΛL, mt_Law, 30) X σ [some (.ref 1300), some (.ref 0), some (.ref 43), some (.int (nI i))] [] 1099 := by
  refine g_aload_n (by decide +kernel : decode code 1099 = .ok (.aload_n 1, 1)) rfl ?_
  refine g_aload_n (by decide +kernel : decode code 1100 = .ok (.aload_n 0, 1)) rfl ?_
  refine g_iload_n (by decide +kernel : decode code 1101 = .ok (.iload_n 3, 1)) rfl ?_
  refine g_iconst (v := nI 1) (by decide +kernel : decode code 1102 = .ok (.iconst 1, 1)) (by decide) ?_
  refine g_iaddN (by decide +kernel : decode code 1103 = .ok (.iadd, 1)) ?_
  refine g_sld hX (by decide +kernel : decode code 1104 = .ok (.iaload, 1)) rfl (by omega) (by omega) ?_
  refine g_aload_n (by decide +kernel : decode code 1105 = .ok (.aload_n 0, 1)) rfl ?_
  refine g_iload_n (by decide +kernel : decode code 1106 = .ok (.iload_n 3, 1)) rfl ?_
  refine g_iconst (v := nI 2) (by decide +kernel : decode code 1107 = .ok (.iconst 2, 1)) (by decide) ?_
  refine g_iaddN (by decide +kernel : decode code 1108 = .ok (.iadd, 1)) ?_
  refine g_sld hX (by decide +kernel : decode code 1109 = .ok (.iaload, 1)) rfl (by omega) (by omega) ?_
  refine g_aload_n (by decide +kernel : decode code 1110 = .ok (.aload_n 0, 1)) rfl ?_
  refine g_iload_n (by decide +kernel : decode code 1111 = .ok (.iload_n 3, 1)) rfl ?_
  refine g_iconst (v := nI 3) (by decide +kernel : decode code 1112 = .ok (.iconst 3, 1)) (by decide) ?_
  refine g_iaddN (by decide +kernel : decode code 1113 = .ok (.iadd, 1)) ?_
  refine g_sld hX (by decide +kernel : decode code 1114 = .ok (.iaload, 1)) rfl (by omega) (by omega) ?_
  refine g_callVL [.int (xs (i + 1)), .int (xs (i + 2)), .int (xs (i + 3))] (by decide +kernel : decode code 1115 = .ok (.invokevirtual 137, 3)) lk_Law_137 (st_odds hJ (xs (i + 1)) (xs (i + 2)) (xs (i + 3))) rfl rfl rfl rfl (Nat.le_of_ble_eq_true rfl) (Nat.le_of_ble_eq_true rfl) (fun r1115 s1115 h1115 => ?_)
  refine g_aload_n (by decide +kernel : decode code 1118 = .ok (.aload_n 2, 1)) rfl ?_
  refine g_aload_n (by decide +kernel : decode code 1119 = .ok (.aload_n 0, 1)) rfl ?_
  refine g_iload_n (by decide +kernel : decode code 1120 = .ok (.iload_n 3, 1)) rfl ?_
  refine g_iconst (v := nI 1) (by decide +kernel : decode code 1121 = .ok (.iconst 1, 1)) (by decide) ?_
  refine g_iaddN (by decide +kernel : decode code 1122 = .ok (.iadd, 1)) ?_
  refine g_sld hX (by decide +kernel : decode code 1123 = .ok (.iaload, 1)) rfl (by omega) (by omega) ?_
  refine g_aload_n (by decide +kernel : decode code 1124 = .ok (.aload_n 0, 1)) rfl ?_
  refine g_iload_n (by decide +kernel : decode code 1125 = .ok (.iload_n 3, 1)) rfl ?_
  refine g_iconst (v := nI 2) (by decide +kernel : decode code 1126 = .ok (.iconst 2, 1)) (by decide) ?_
  refine g_iaddN (by decide +kernel : decode code 1127 = .ok (.iadd, 1)) ?_
  refine g_sld hX (by decide +kernel : decode code 1128 = .ok (.iaload, 1)) rfl (by omega) (by omega) ?_
  refine g_aload_n (by decide +kernel : decode code 1129 = .ok (.aload_n 0, 1)) rfl ?_
  refine g_iload_n (by decide +kernel : decode code 1130 = .ok (.iload_n 3, 1)) rfl ?_
  refine g_iconst (v := nI 3) (by decide +kernel : decode code 1131 = .ok (.iconst 3, 1)) (by decide) ?_
  refine g_iaddN (by decide +kernel : decode code 1132 = .ok (.iadd, 1)) ?_
  refine g_sld hX (by decide +kernel : decode code 1133 = .ok (.iaload, 1)) rfl (by omega) (by omega) ?_
  refine g_callVL [.int (xs (i + 1)), .int (xs (i + 2)), .int (xs (i + 3))] (by decide +kernel : decode code 1134 = .ok (.invokevirtual 141, 3)) lk_Law_141 (h1115) rfl rfl rfl rfl (Nat.le_of_ble_eq_true rfl) (Nat.le_of_ble_eq_true rfl) (fun r1134 s1134 h1134 => ?_)
  obtain ⟨e9, j9⟩ := h1134
  refine g_lcmp (by decide +kernel : decode code 1137 = .ok (.lcmp, 1)) ?_
  refine g_if_eq (tgt := 1682) (by decide +kernel : decode code 1138 = .ok (.ifCond .eq 544, 3)) (by decide) (fun _ => kk _ j9) (fun q => absurd (lg_ne0.mpr e9) q)
set_option maxRecDepth 20000 in
/-- hope -/
theorem law_c30 {X : CX} {b L i : Nat} {xs : Nat → Int32} {σ : Store} (hX : SX X b L xs) (hL : L ≤ 3072) (hi : i + 6 ≤ L) (hJ : Jv σ) (kk : ∀ σ', Jv σ' → G (ΛL, mt_Law, 30) X σ' [some (.ref 1300), some (.ref 0), some (.ref 43), some (.int (nI i))] [] 1682) : G (ΛL, mt_Law, 30) X σ [some (.ref 1300), some (.ref 0), some (.ref 43), some (.int (nI i))] [] 1143 := by
  refine g_aload_n (by decide +kernel : decode code 1143 = .ok (.aload_n 1, 1)) rfl ?_
  refine g_aload_n (by decide +kernel : decode code 1144 = .ok (.aload_n 0, 1)) rfl ?_
  refine g_iload_n (by decide +kernel : decode code 1145 = .ok (.iload_n 3, 1)) rfl ?_
  refine g_iconst (v := nI 1) (by decide +kernel : decode code 1146 = .ok (.iconst 1, 1)) (by decide) ?_
  refine g_iaddN (by decide +kernel : decode code 1147 = .ok (.iadd, 1)) ?_
  refine g_sld hX (by decide +kernel : decode code 1148 = .ok (.iaload, 1)) rfl (by omega) (by omega) ?_
  refine g_aload_n (by decide +kernel : decode code 1149 = .ok (.aload_n 0, 1)) rfl ?_
  refine g_iload_n (by decide +kernel : decode code 1150 = .ok (.iload_n 3, 1)) rfl ?_
  refine g_iconst (v := nI 2) (by decide +kernel : decode code 1151 = .ok (.iconst 2, 1)) (by decide) ?_
  refine g_iaddN (by decide +kernel : decode code 1152 = .ok (.iadd, 1)) ?_
  refine g_sld hX (by decide +kernel : decode code 1153 = .ok (.iaload, 1)) rfl (by omega) (by omega) ?_
  refine g_callVL [.int (xs (i + 1)), .int (xs (i + 2))] (by decide +kernel : decode code 1154 = .ok (.invokevirtual 142, 3)) lk_Law_142 (st_hope hJ (xs (i + 1)) (xs (i + 2))) rfl rfl rfl rfl (Nat.le_of_ble_eq_true rfl) (Nat.le_of_ble_eq_true rfl) (fun r1154 s1154 h1154 => ?_)
  refine g_aload_n (by decide +kernel : decode code 1157 = .ok (.aload_n 2, 1)) rfl ?_
  refine g_aload_n (by decide +kernel : decode code 1158 = .ok (.aload_n 0, 1)) rfl ?_
  refine g_iload_n (by decide +kernel : decode code 1159 = .ok (.iload_n 3, 1)) rfl ?_
  refine g_iconst (v := nI 1) (by decide +kernel : decode code 1160 = .ok (.iconst 1, 1)) (by decide) ?_
  refine g_iaddN (by decide +kernel : decode code 1161 = .ok (.iadd, 1)) ?_
  refine g_sld hX (by decide +kernel : decode code 1162 = .ok (.iaload, 1)) rfl (by omega) (by omega) ?_
  refine g_aload_n (by decide +kernel : decode code 1163 = .ok (.aload_n 0, 1)) rfl ?_
  refine g_iload_n (by decide +kernel : decode code 1164 = .ok (.iload_n 3, 1)) rfl ?_
  refine g_iconst (v := nI 2) (by decide +kernel : decode code 1165 = .ok (.iconst 2, 1)) (by decide) ?_
  refine g_iaddN (by decide +kernel : decode code 1166 = .ok (.iadd, 1)) ?_
  refine g_sld hX (by decide +kernel : decode code 1167 = .ok (.iaload, 1)) rfl (by omega) (by omega) ?_
  refine g_callVL [.int (xs (i + 1)), .int (xs (i + 2))] (by decide +kernel : decode code 1168 = .ok (.invokevirtual 146, 3)) lk_Law_146 (h1154) rfl rfl rfl rfl (Nat.le_of_ble_eq_true rfl) (Nat.le_of_ble_eq_true rfl) (fun r1168 s1168 h1168 => ?_)
  obtain ⟨e9, j9⟩ := h1168
  refine g_lcmp (by decide +kernel : decode code 1171 = .ok (.lcmp, 1)) ?_
  refine g_if_eq (tgt := 1682) (by decide +kernel : decode code 1172 = .ok (.ifCond .eq 510, 3)) (by decide) (fun _ => kk _ j9) (fun q => absurd (lg_ne0.mpr e9) q)
set_option maxRecDepth 20000 in
/-- prove -/
theorem law_c31 {X : CX} {b L i : Nat} {xs : Nat → Int32} {σ : Store} (hX : SX X b L xs) (hL : L ≤ 3072) (hi : i + 6 ≤ L) (hJ : Jv σ) (kk : ∀ σ', Jv σ' → G (ΛL, mt_Law, 30) X σ' [some (.ref 1300), some (.ref 0), some (.ref 43), some (.int (nI i))] [] 1682) : G (ΛL, mt_Law, 30) X σ [some (.ref 1300), some (.ref 0), some (.ref 43), some (.int (nI i))] [] 1177 := by
  refine g_aload_n (by decide +kernel : decode code 1177 = .ok (.aload_n 1, 1)) rfl ?_
  refine g_aload_n (by decide +kernel : decode code 1178 = .ok (.aload_n 0, 1)) rfl ?_
  refine g_iload_n (by decide +kernel : decode code 1179 = .ok (.iload_n 3, 1)) rfl ?_
  refine g_iconst (v := nI 1) (by decide +kernel : decode code 1180 = .ok (.iconst 1, 1)) (by decide) ?_
  refine g_iaddN (by decide +kernel : decode code 1181 = .ok (.iadd, 1)) ?_
  refine g_sld hX (by decide +kernel : decode code 1182 = .ok (.iaload, 1)) rfl (by omega) (by omega) ?_
  refine g_aload_n (by decide +kernel : decode code 1183 = .ok (.aload_n 0, 1)) rfl ?_
  refine g_iload_n (by decide +kernel : decode code 1184 = .ok (.iload_n 3, 1)) rfl ?_
  refine g_iconst (v := nI 2) (by decide +kernel : decode code 1185 = .ok (.iconst 2, 1)) (by decide) ?_
  refine g_iaddN (by decide +kernel : decode code 1186 = .ok (.iadd, 1)) ?_
  refine g_sld hX (by decide +kernel : decode code 1187 = .ok (.iaload, 1)) rfl (by omega) (by omega) ?_
  refine g_callVI [.int (xs (i + 1)), .int (xs (i + 2))] (by decide +kernel : decode code 1188 = .ok (.invokevirtual 147, 3)) lk_Law_147 (st_prove hJ (xs (i + 1)) (xs (i + 2))) rfl rfl rfl rfl (Nat.le_of_ble_eq_true rfl) (Nat.le_of_ble_eq_true rfl) (fun r1188 s1188 h1188 => ?_)
  refine g_aload_n (by decide +kernel : decode code 1191 = .ok (.aload_n 2, 1)) rfl ?_
  refine g_aload_n (by decide +kernel : decode code 1192 = .ok (.aload_n 0, 1)) rfl ?_
  refine g_iload_n (by decide +kernel : decode code 1193 = .ok (.iload_n 3, 1)) rfl ?_
  refine g_iconst (v := nI 1) (by decide +kernel : decode code 1194 = .ok (.iconst 1, 1)) (by decide) ?_
  refine g_iaddN (by decide +kernel : decode code 1195 = .ok (.iadd, 1)) ?_
  refine g_sld hX (by decide +kernel : decode code 1196 = .ok (.iaload, 1)) rfl (by omega) (by omega) ?_
  refine g_aload_n (by decide +kernel : decode code 1197 = .ok (.aload_n 0, 1)) rfl ?_
  refine g_iload_n (by decide +kernel : decode code 1198 = .ok (.iload_n 3, 1)) rfl ?_
  refine g_iconst (v := nI 2) (by decide +kernel : decode code 1199 = .ok (.iconst 2, 1)) (by decide) ?_
  refine g_iaddN (by decide +kernel : decode code 1200 = .ok (.iadd, 1)) ?_
  refine g_sld hX (by decide +kernel : decode code 1201 = .ok (.iaload, 1)) rfl (by omega) (by omega) ?_
  refine g_callVI [.int (xs (i + 1)), .int (xs (i + 2))] (by decide +kernel : decode code 1202 = .ok (.invokevirtual 150, 3)) lk_Law_150 (h1188) rfl rfl rfl rfl (Nat.le_of_ble_eq_true rfl) (Nat.le_of_ble_eq_true rfl) (fun r1202 s1202 h1202 => ?_)
  obtain ⟨e9, j9⟩ := h1202
  refine g_icmp_eq (tgt := 1682) (by decide +kernel : decode code 1205 = .ok (.if_icmp .eq 477, 3)) (by decide) (fun _ => kk _ j9) (fun q => absurd e9 q)
set_option maxRecDepth 20000 in
/-- row -/
theorem law_c32 {X : CX} {b L i : Nat} {xs : Nat → Int32} {σ : Store} (hX : SX X b L xs) (hL : L ≤ 3072) (hi : i + 6 ≤ L) (hJ : Jv σ) (kk : ∀ σ', Jv σ' → G (ΛL, mt_Law, 30) X σ' [some (.ref 1300), some (.ref 0), some (.ref 43), some (.int (nI i))] [] 1682) : G (ΛL, mt_Law, 30) X σ [some (.ref 1300), some (.ref 0), some (.ref 43), some (.int (nI i))] [] 1210 := by
  refine g_aload_n (by decide +kernel : decode code 1210 = .ok (.aload_n 1, 1)) rfl ?_
  refine g_aload_n (by decide +kernel : decode code 1211 = .ok (.aload_n 0, 1)) rfl ?_
  refine g_iload_n (by decide +kernel : decode code 1212 = .ok (.iload_n 3, 1)) rfl ?_
  refine g_iconst (v := nI 1) (by decide +kernel : decode code 1213 = .ok (.iconst 1, 1)) (by decide) ?_
  refine g_iaddN (by decide +kernel : decode code 1214 = .ok (.iadd, 1)) ?_
  refine g_sld hX (by decide +kernel : decode code 1215 = .ok (.iaload, 1)) rfl (by omega) (by omega) ?_
  refine g_aload_n (by decide +kernel : decode code 1216 = .ok (.aload_n 0, 1)) rfl ?_
  refine g_iload_n (by decide +kernel : decode code 1217 = .ok (.iload_n 3, 1)) rfl ?_
  refine g_iconst (v := nI 2) (by decide +kernel : decode code 1218 = .ok (.iconst 2, 1)) (by decide) ?_
  refine g_iaddN (by decide +kernel : decode code 1219 = .ok (.iadd, 1)) ?_
  refine g_sld hX (by decide +kernel : decode code 1220 = .ok (.iaload, 1)) rfl (by omega) (by omega) ?_
  refine g_callVI [.int (xs (i + 1)), .int (xs (i + 2))] (by decide +kernel : decode code 1221 = .ok (.invokevirtual 151, 3)) lk_Law_151 (st_row hJ (xs (i + 1)) (xs (i + 2))) rfl rfl rfl rfl (Nat.le_of_ble_eq_true rfl) (Nat.le_of_ble_eq_true rfl) (fun r1221 s1221 h1221 => ?_)
  refine g_aload_n (by decide +kernel : decode code 1224 = .ok (.aload_n 2, 1)) rfl ?_
  refine g_aload_n (by decide +kernel : decode code 1225 = .ok (.aload_n 0, 1)) rfl ?_
  refine g_iload_n (by decide +kernel : decode code 1226 = .ok (.iload_n 3, 1)) rfl ?_
  refine g_iconst (v := nI 1) (by decide +kernel : decode code 1227 = .ok (.iconst 1, 1)) (by decide) ?_
  refine g_iaddN (by decide +kernel : decode code 1228 = .ok (.iadd, 1)) ?_
  refine g_sld hX (by decide +kernel : decode code 1229 = .ok (.iaload, 1)) rfl (by omega) (by omega) ?_
  refine g_aload_n (by decide +kernel : decode code 1230 = .ok (.aload_n 0, 1)) rfl ?_
  refine g_iload_n (by decide +kernel : decode code 1231 = .ok (.iload_n 3, 1)) rfl ?_
  refine g_iconst (v := nI 2) (by decide +kernel : decode code 1232 = .ok (.iconst 2, 1)) (by decide) ?_
  refine g_iaddN (by decide +kernel : decode code 1233 = .ok (.iadd, 1)) ?_
  refine g_sld hX (by decide +kernel : decode code 1234 = .ok (.iaload, 1)) rfl (by omega) (by omega) ?_
  refine g_callVI [.int (xs (i + 1)), .int (xs (i + 2))] (by decide +kernel : decode code 1235 = .ok (.invokevirtual 154, 3)) lk_Law_154 (h1221) rfl rfl rfl rfl (Nat.le_of_ble_eq_true rfl) (Nat.le_of_ble_eq_true rfl) (fun r1235 s1235 h1235 => ?_)
  obtain ⟨e9, j9⟩ := h1235
  refine g_icmp_eq (tgt := 1682) (by decide +kernel : decode code 1238 = .ok (.if_icmp .eq 444, 3)) (by decide) (fun _ => kk _ j9) (fun q => absurd e9 q)
set_option maxRecDepth 20000 in
/-- alterRow -/
theorem law_c33 {X : CX} {b L i : Nat} {xs : Nat → Int32} {σ : Store} (hX : SX X b L xs) (hL : L ≤ 3072) (hi : i + 6 ≤ L) (hJ : Jv σ) (kk : ∀ σ', Jv σ' → G (ΛL, mt_Law, 30) X σ' [some (.ref 1300), some (.ref 0), some (.ref 43), some (.int (nI i))] [] 1682) : G (ΛL, mt_Law, 30) X σ [some (.ref 1300), some (.ref 0), some (.ref 43), some (.int (nI i))] [] 1243 := by
  refine g_aload_n (by decide +kernel : decode code 1243 = .ok (.aload_n 1, 1)) rfl ?_
  refine g_aload_n (by decide +kernel : decode code 1244 = .ok (.aload_n 0, 1)) rfl ?_
  refine g_iload_n (by decide +kernel : decode code 1245 = .ok (.iload_n 3, 1)) rfl ?_
  refine g_iconst (v := nI 1) (by decide +kernel : decode code 1246 = .ok (.iconst 1, 1)) (by decide) ?_
  refine g_iaddN (by decide +kernel : decode code 1247 = .ok (.iadd, 1)) ?_
  refine g_sld hX (by decide +kernel : decode code 1248 = .ok (.iaload, 1)) rfl (by omega) (by omega) ?_
  refine g_aload_n (by decide +kernel : decode code 1249 = .ok (.aload_n 0, 1)) rfl ?_
  refine g_iload_n (by decide +kernel : decode code 1250 = .ok (.iload_n 3, 1)) rfl ?_
  refine g_iconst (v := nI 2) (by decide +kernel : decode code 1251 = .ok (.iconst 2, 1)) (by decide) ?_
  refine g_iaddN (by decide +kernel : decode code 1252 = .ok (.iadd, 1)) ?_
  refine g_sld hX (by decide +kernel : decode code 1253 = .ok (.iaload, 1)) rfl (by omega) (by omega) ?_
  refine g_aload_n (by decide +kernel : decode code 1254 = .ok (.aload_n 0, 1)) rfl ?_
  refine g_iload_n (by decide +kernel : decode code 1255 = .ok (.iload_n 3, 1)) rfl ?_
  refine g_iconst (v := nI 3) (by decide +kernel : decode code 1256 = .ok (.iconst 3, 1)) (by decide) ?_
  refine g_iaddN (by decide +kernel : decode code 1257 = .ok (.iadd, 1)) ?_
  refine g_sld hX (by decide +kernel : decode code 1258 = .ok (.iaload, 1)) rfl (by omega) (by omega) ?_
  refine g_callVI [.int (xs (i + 1)), .int (xs (i + 2)), .int (xs (i + 3))] (by decide +kernel : decode code 1259 = .ok (.invokevirtual 155, 3)) lk_Law_155 (st_alterRow hJ (xs (i + 1)) (xs (i + 2)) (xs (i + 3))) rfl rfl rfl rfl (Nat.le_of_ble_eq_true rfl) (Nat.le_of_ble_eq_true rfl) (fun r1259 s1259 h1259 => ?_)
  refine g_aload_n (by decide +kernel : decode code 1262 = .ok (.aload_n 2, 1)) rfl ?_
  refine g_aload_n (by decide +kernel : decode code 1263 = .ok (.aload_n 0, 1)) rfl ?_
  refine g_iload_n (by decide +kernel : decode code 1264 = .ok (.iload_n 3, 1)) rfl ?_
  refine g_iconst (v := nI 1) (by decide +kernel : decode code 1265 = .ok (.iconst 1, 1)) (by decide) ?_
  refine g_iaddN (by decide +kernel : decode code 1266 = .ok (.iadd, 1)) ?_
  refine g_sld hX (by decide +kernel : decode code 1267 = .ok (.iaload, 1)) rfl (by omega) (by omega) ?_
  refine g_aload_n (by decide +kernel : decode code 1268 = .ok (.aload_n 0, 1)) rfl ?_
  refine g_iload_n (by decide +kernel : decode code 1269 = .ok (.iload_n 3, 1)) rfl ?_
  refine g_iconst (v := nI 2) (by decide +kernel : decode code 1270 = .ok (.iconst 2, 1)) (by decide) ?_
  refine g_iaddN (by decide +kernel : decode code 1271 = .ok (.iadd, 1)) ?_
  refine g_sld hX (by decide +kernel : decode code 1272 = .ok (.iaload, 1)) rfl (by omega) (by omega) ?_
  refine g_aload_n (by decide +kernel : decode code 1273 = .ok (.aload_n 0, 1)) rfl ?_
  refine g_iload_n (by decide +kernel : decode code 1274 = .ok (.iload_n 3, 1)) rfl ?_
  refine g_iconst (v := nI 3) (by decide +kernel : decode code 1275 = .ok (.iconst 3, 1)) (by decide) ?_
  refine g_iaddN (by decide +kernel : decode code 1276 = .ok (.iadd, 1)) ?_
  refine g_sld hX (by decide +kernel : decode code 1277 = .ok (.iaload, 1)) rfl (by omega) (by omega) ?_
  refine g_callVI [.int (xs (i + 1)), .int (xs (i + 2)), .int (xs (i + 3))] (by decide +kernel : decode code 1278 = .ok (.invokevirtual 158, 3)) lk_Law_158 (h1259) rfl rfl rfl rfl (Nat.le_of_ble_eq_true rfl) (Nat.le_of_ble_eq_true rfl) (fun r1278 s1278 h1278 => ?_)
  obtain ⟨e9, j9⟩ := h1278
  refine g_icmp_eq (tgt := 1682) (by decide +kernel : decode code 1281 = .ok (.if_icmp .eq 401, 3)) (by decide) (fun _ => kk _ j9) (fun q => absurd e9 q)
set_option maxRecDepth 20000 in
/-- judge -/
theorem law_c34 {X : CX} {b L i : Nat} {xs : Nat → Int32} {σ : Store} (hX : SX X b L xs) (hL : L ≤ 3072) (hi : i + 6 ≤ L) (hJ : Jv σ) (kk : ∀ σ', Jv σ' → G (ΛL, mt_Law, 30) X σ' [some (.ref 1300), some (.ref 0), some (.ref 43), some (.int (nI i))] [] 1682) : G (ΛL, mt_Law, 30) X σ [some (.ref 1300), some (.ref 0), some (.ref 43), some (.int (nI i))] [] 1286 := by
  refine g_aload_n (by decide +kernel : decode code 1286 = .ok (.aload_n 1, 1)) rfl ?_
  refine g_aload_n (by decide +kernel : decode code 1287 = .ok (.aload_n 0, 1)) rfl ?_
  refine g_iload_n (by decide +kernel : decode code 1288 = .ok (.iload_n 3, 1)) rfl ?_
  refine g_iconst (v := nI 1) (by decide +kernel : decode code 1289 = .ok (.iconst 1, 1)) (by decide) ?_
  refine g_iaddN (by decide +kernel : decode code 1290 = .ok (.iadd, 1)) ?_
  refine g_sld hX (by decide +kernel : decode code 1291 = .ok (.iaload, 1)) rfl (by omega) (by omega) ?_
  refine g_callVI [.int (xs (i + 1))] (by decide +kernel : decode code 1292 = .ok (.invokevirtual 159, 3)) lk_Law_159 (st_judge hJ (xs (i + 1))) rfl rfl rfl rfl (Nat.le_of_ble_eq_true rfl) (Nat.le_of_ble_eq_true rfl) (fun r1292 s1292 h1292 => ?_)
  refine g_aload_n (by decide +kernel : decode code 1295 = .ok (.aload_n 2, 1)) rfl ?_
  refine g_aload_n (by decide +kernel : decode code 1296 = .ok (.aload_n 0, 1)) rfl ?_
  refine g_iload_n (by decide +kernel : decode code 1297 = .ok (.iload_n 3, 1)) rfl ?_
  refine g_iconst (v := nI 1) (by decide +kernel : decode code 1298 = .ok (.iconst 1, 1)) (by decide) ?_
  refine g_iaddN (by decide +kernel : decode code 1299 = .ok (.iadd, 1)) ?_
  refine g_sld hX (by decide +kernel : decode code 1300 = .ok (.iaload, 1)) rfl (by omega) (by omega) ?_
  refine g_callVI [.int (xs (i + 1))] (by decide +kernel : decode code 1301 = .ok (.invokevirtual 162, 3)) lk_Law_162 (h1292) rfl rfl rfl rfl (Nat.le_of_ble_eq_true rfl) (Nat.le_of_ble_eq_true rfl) (fun r1301 s1301 h1301 => ?_)
  obtain ⟨e9, j9⟩ := h1301
  refine g_icmp_eq (tgt := 1682) (by decide +kernel : decode code 1304 = .ok (.if_icmp .eq 378, 3)) (by decide) (fun _ => kk _ j9) (fun q => absurd e9 q)
set_option maxRecDepth 20000 in
/-- minds -/
theorem law_c35 {X : CX} {b L i : Nat} {xs : Nat → Int32} {σ : Store} (hX : SX X b L xs) (hL : L ≤ 3072) (hi : i + 6 ≤ L) (hJ : Jv σ) (kk : ∀ σ', Jv σ' → G (ΛL, mt_Law, 30) X σ' [some (.ref 1300), some (.ref 0), some (.ref 43), some (.int (nI i))] [] 1682) : G (ΛL, mt_Law, 30) X σ [some (.ref 1300), some (.ref 0), some (.ref 43), some (.int (nI i))] [] 1309 := by
  refine g_aload_n (by decide +kernel : decode code 1309 = .ok (.aload_n 1, 1)) rfl ?_
  refine g_aload_n (by decide +kernel : decode code 1310 = .ok (.aload_n 0, 1)) rfl ?_
  refine g_iload_n (by decide +kernel : decode code 1311 = .ok (.iload_n 3, 1)) rfl ?_
  refine g_iconst (v := nI 1) (by decide +kernel : decode code 1312 = .ok (.iconst 1, 1)) (by decide) ?_
  refine g_iaddN (by decide +kernel : decode code 1313 = .ok (.iadd, 1)) ?_
  refine g_sld hX (by decide +kernel : decode code 1314 = .ok (.iaload, 1)) rfl (by omega) (by omega) ?_
  refine g_aload_n (by decide +kernel : decode code 1315 = .ok (.aload_n 0, 1)) rfl ?_
  refine g_iload_n (by decide +kernel : decode code 1316 = .ok (.iload_n 3, 1)) rfl ?_
  refine g_iconst (v := nI 2) (by decide +kernel : decode code 1317 = .ok (.iconst 2, 1)) (by decide) ?_
  refine g_iaddN (by decide +kernel : decode code 1318 = .ok (.iadd, 1)) ?_
  refine g_sld hX (by decide +kernel : decode code 1319 = .ok (.iaload, 1)) rfl (by omega) (by omega) ?_
  refine g_aload_n (by decide +kernel : decode code 1320 = .ok (.aload_n 0, 1)) rfl ?_
  refine g_iload_n (by decide +kernel : decode code 1321 = .ok (.iload_n 3, 1)) rfl ?_
  refine g_iconst (v := nI 3) (by decide +kernel : decode code 1322 = .ok (.iconst 3, 1)) (by decide) ?_
  refine g_iaddN (by decide +kernel : decode code 1323 = .ok (.iadd, 1)) ?_
  refine g_sld hX (by decide +kernel : decode code 1324 = .ok (.iaload, 1)) rfl (by omega) (by omega) ?_
  refine g_aload_n (by decide +kernel : decode code 1325 = .ok (.aload_n 0, 1)) rfl ?_
  refine g_iload_n (by decide +kernel : decode code 1326 = .ok (.iload_n 3, 1)) rfl ?_
  refine g_iconst (v := nI 4) (by decide +kernel : decode code 1327 = .ok (.iconst 4, 1)) (by decide) ?_
  refine g_iaddN (by decide +kernel : decode code 1328 = .ok (.iadd, 1)) ?_
  refine g_sld hX (by decide +kernel : decode code 1329 = .ok (.iaload, 1)) rfl (by omega) (by omega) ?_
  refine g_callVI [.int (xs (i + 1)), .int (xs (i + 2)), .int (xs (i + 3)), .int (xs (i + 4))] (by decide +kernel : decode code 1330 = .ok (.invokevirtual 163, 3)) lk_Law_163 (st_minds hJ (xs (i + 1)) (xs (i + 2)) (xs (i + 3)) (xs (i + 4))) rfl rfl rfl rfl (Nat.le_of_ble_eq_true rfl) (Nat.le_of_ble_eq_true rfl) (fun r1330 s1330 h1330 => ?_)
  refine g_aload_n (by decide +kernel : decode code 1333 = .ok (.aload_n 2, 1)) rfl ?_
  refine g_aload_n (by decide +kernel : decode code 1334 = .ok (.aload_n 0, 1)) rfl ?_
  refine g_iload_n (by decide +kernel : decode code 1335 = .ok (.iload_n 3, 1)) rfl ?_
  refine g_iconst (v := nI 1) (by decide +kernel : decode code 1336 = .ok (.iconst 1, 1)) (by decide) ?_
  refine g_iaddN (by decide +kernel : decode code 1337 = .ok (.iadd, 1)) ?_
  refine g_sld hX (by decide +kernel : decode code 1338 = .ok (.iaload, 1)) rfl (by omega) (by omega) ?_
  refine g_aload_n (by decide +kernel : decode code 1339 = .ok (.aload_n 0, 1)) rfl ?_
  refine g_iload_n (by decide +kernel : decode code 1340 = .ok (.iload_n 3, 1)) rfl ?_
  refine g_iconst (v := nI 2) (by decide +kernel : decode code 1341 = .ok (.iconst 2, 1)) (by decide) ?_
  refine g_iaddN (by decide +kernel : decode code 1342 = .ok (.iadd, 1)) ?_
  refine g_sld hX (by decide +kernel : decode code 1343 = .ok (.iaload, 1)) rfl (by omega) (by omega) ?_
  refine g_aload_n (by decide +kernel : decode code 1344 = .ok (.aload_n 0, 1)) rfl ?_
  refine g_iload_n (by decide +kernel : decode code 1345 = .ok (.iload_n 3, 1)) rfl ?_
  refine g_iconst (v := nI 3) (by decide +kernel : decode code 1346 = .ok (.iconst 3, 1)) (by decide) ?_
  refine g_iaddN (by decide +kernel : decode code 1347 = .ok (.iadd, 1)) ?_
  refine g_sld hX (by decide +kernel : decode code 1348 = .ok (.iaload, 1)) rfl (by omega) (by omega) ?_
  refine g_aload_n (by decide +kernel : decode code 1349 = .ok (.aload_n 0, 1)) rfl ?_
  refine g_iload_n (by decide +kernel : decode code 1350 = .ok (.iload_n 3, 1)) rfl ?_
  refine g_iconst (v := nI 4) (by decide +kernel : decode code 1351 = .ok (.iconst 4, 1)) (by decide) ?_
  refine g_iaddN (by decide +kernel : decode code 1352 = .ok (.iadd, 1)) ?_
  refine g_sld hX (by decide +kernel : decode code 1353 = .ok (.iaload, 1)) rfl (by omega) (by omega) ?_
  refine g_callVI [.int (xs (i + 1)), .int (xs (i + 2)), .int (xs (i + 3)), .int (xs (i + 4))] (by decide +kernel : decode code 1354 = .ok (.invokevirtual 167, 3)) lk_Law_167 (h1330) rfl rfl rfl rfl (Nat.le_of_ble_eq_true rfl) (Nat.le_of_ble_eq_true rfl) (fun r1354 s1354 h1354 => ?_)
  obtain ⟨e9, j9⟩ := h1354
  refine g_icmp_eq (tgt := 1682) (by decide +kernel : decode code 1357 = .ok (.if_icmp .eq 325, 3)) (by decide) (fun _ => kk _ j9) (fun q => absurd e9 q)
set_option maxRecDepth 20000 in
/-- sheet -/
theorem law_c36 {X : CX} {b L i : Nat} {xs : Nat → Int32} {σ : Store} (hX : SX X b L xs) (hL : L ≤ 3072) (hi : i + 6 ≤ L) (hJ : Jv σ) (kk : ∀ σ', Jv σ' → G (ΛL, mt_Law, 30) X σ' [some (.ref 1300), some (.ref 0), some (.ref 43), some (.int (nI i))] [] 1682) : G (ΛL, mt_Law, 30) X σ [some (.ref 1300), some (.ref 0), some (.ref 43), some (.int (nI i))] [] 1362 := by
  refine g_aload_n (by decide +kernel : decode code 1362 = .ok (.aload_n 1, 1)) rfl ?_
  refine g_aload_n (by decide +kernel : decode code 1363 = .ok (.aload_n 0, 1)) rfl ?_
  refine g_iload_n (by decide +kernel : decode code 1364 = .ok (.iload_n 3, 1)) rfl ?_
  refine g_iconst (v := nI 1) (by decide +kernel : decode code 1365 = .ok (.iconst 1, 1)) (by decide) ?_
  refine g_iaddN (by decide +kernel : decode code 1366 = .ok (.iadd, 1)) ?_
  refine g_sld hX (by decide +kernel : decode code 1367 = .ok (.iaload, 1)) rfl (by omega) (by omega) ?_
  refine g_aload_n (by decide +kernel : decode code 1368 = .ok (.aload_n 0, 1)) rfl ?_
  refine g_iload_n (by decide +kernel : decode code 1369 = .ok (.iload_n 3, 1)) rfl ?_
  refine g_iconst (v := nI 2) (by decide +kernel : decode code 1370 = .ok (.iconst 2, 1)) (by decide) ?_
  refine g_iaddN (by decide +kernel : decode code 1371 = .ok (.iadd, 1)) ?_
  refine g_sld hX (by decide +kernel : decode code 1372 = .ok (.iaload, 1)) rfl (by omega) (by omega) ?_
  refine g_aload_n (by decide +kernel : decode code 1373 = .ok (.aload_n 0, 1)) rfl ?_
  refine g_iload_n (by decide +kernel : decode code 1374 = .ok (.iload_n 3, 1)) rfl ?_
  refine g_iconst (v := nI 3) (by decide +kernel : decode code 1375 = .ok (.iconst 3, 1)) (by decide) ?_
  refine g_iaddN (by decide +kernel : decode code 1376 = .ok (.iadd, 1)) ?_
  refine g_sld hX (by decide +kernel : decode code 1377 = .ok (.iaload, 1)) rfl (by omega) (by omega) ?_
  refine g_callVI [.int (xs (i + 1)), .int (xs (i + 2)), .int (xs (i + 3))] (by decide +kernel : decode code 1378 = .ok (.invokevirtual 168, 3)) lk_Law_168 (st_sheet hJ (xs (i + 1)) (xs (i + 2)) (xs (i + 3))) rfl rfl rfl rfl (Nat.le_of_ble_eq_true rfl) (Nat.le_of_ble_eq_true rfl) (fun r1378 s1378 h1378 => ?_)
  refine g_aload_n (by decide +kernel : decode code 1381 = .ok (.aload_n 2, 1)) rfl ?_
  refine g_aload_n (by decide +kernel : decode code 1382 = .ok (.aload_n 0, 1)) rfl ?_
  refine g_iload_n (by decide +kernel : decode code 1383 = .ok (.iload_n 3, 1)) rfl ?_
  refine g_iconst (v := nI 1) (by decide +kernel : decode code 1384 = .ok (.iconst 1, 1)) (by decide) ?_
  refine g_iaddN (by decide +kernel : decode code 1385 = .ok (.iadd, 1)) ?_
  refine g_sld hX (by decide +kernel : decode code 1386 = .ok (.iaload, 1)) rfl (by omega) (by omega) ?_
  refine g_aload_n (by decide +kernel : decode code 1387 = .ok (.aload_n 0, 1)) rfl ?_
  refine g_iload_n (by decide +kernel : decode code 1388 = .ok (.iload_n 3, 1)) rfl ?_
  refine g_iconst (v := nI 2) (by decide +kernel : decode code 1389 = .ok (.iconst 2, 1)) (by decide) ?_
  refine g_iaddN (by decide +kernel : decode code 1390 = .ok (.iadd, 1)) ?_
  refine g_sld hX (by decide +kernel : decode code 1391 = .ok (.iaload, 1)) rfl (by omega) (by omega) ?_
  refine g_aload_n (by decide +kernel : decode code 1392 = .ok (.aload_n 0, 1)) rfl ?_
  refine g_iload_n (by decide +kernel : decode code 1393 = .ok (.iload_n 3, 1)) rfl ?_
  refine g_iconst (v := nI 3) (by decide +kernel : decode code 1394 = .ok (.iconst 3, 1)) (by decide) ?_
  refine g_iaddN (by decide +kernel : decode code 1395 = .ok (.iadd, 1)) ?_
  refine g_sld hX (by decide +kernel : decode code 1396 = .ok (.iaload, 1)) rfl (by omega) (by omega) ?_
  refine g_callVI [.int (xs (i + 1)), .int (xs (i + 2)), .int (xs (i + 3))] (by decide +kernel : decode code 1397 = .ok (.invokevirtual 171, 3)) lk_Law_171 (h1378) rfl rfl rfl rfl (Nat.le_of_ble_eq_true rfl) (Nat.le_of_ble_eq_true rfl) (fun r1397 s1397 h1397 => ?_)
  obtain ⟨e9, j9⟩ := h1397
  refine g_icmp_eq (tgt := 1682) (by decide +kernel : decode code 1400 = .ok (.if_icmp .eq 282, 3)) (by decide) (fun _ => kk _ j9) (fun q => absurd e9 q)
set_option maxRecDepth 20000 in
/-- put -/
theorem law_c37 {X : CX} {b L i : Nat} {xs : Nat → Int32} {σ : Store} (hX : SX X b L xs) (hL : L ≤ 3072) (hi : i + 6 ≤ L) (hJ : Jv σ) (kk : ∀ σ', Jv σ' → G (ΛL, mt_Law, 30) X σ' [some (.ref 1300), some (.ref 0), some (.ref 43), some (.int (nI i))] [] 1682) : G (ΛL, mt_Law, 30) X σ [some (.ref 1300), some (.ref 0), some (.ref 43), some (.int (nI i))] [] 1405 := by
  refine g_aload_n (by decide +kernel : decode code 1405 = .ok (.aload_n 1, 1)) rfl ?_
  refine g_aload_n (by decide +kernel : decode code 1406 = .ok (.aload_n 0, 1)) rfl ?_
  refine g_iload_n (by decide +kernel : decode code 1407 = .ok (.iload_n 3, 1)) rfl ?_
  refine g_iconst (v := nI 1) (by decide +kernel : decode code 1408 = .ok (.iconst 1, 1)) (by decide) ?_
  refine g_iaddN (by decide +kernel : decode code 1409 = .ok (.iadd, 1)) ?_
  refine g_sld hX (by decide +kernel : decode code 1410 = .ok (.iaload, 1)) rfl (by omega) (by omega) ?_
  refine g_aload_n (by decide +kernel : decode code 1411 = .ok (.aload_n 0, 1)) rfl ?_
  refine g_iload_n (by decide +kernel : decode code 1412 = .ok (.iload_n 3, 1)) rfl ?_
  refine g_iconst (v := nI 2) (by decide +kernel : decode code 1413 = .ok (.iconst 2, 1)) (by decide) ?_
  refine g_iaddN (by decide +kernel : decode code 1414 = .ok (.iadd, 1)) ?_
  refine g_sld hX (by decide +kernel : decode code 1415 = .ok (.iaload, 1)) rfl (by omega) (by omega) ?_
  refine g_aload_n (by decide +kernel : decode code 1416 = .ok (.aload_n 0, 1)) rfl ?_
  refine g_iload_n (by decide +kernel : decode code 1417 = .ok (.iload_n 3, 1)) rfl ?_
  refine g_iconst (v := nI 3) (by decide +kernel : decode code 1418 = .ok (.iconst 3, 1)) (by decide) ?_
  refine g_iaddN (by decide +kernel : decode code 1419 = .ok (.iadd, 1)) ?_
  refine g_sld hX (by decide +kernel : decode code 1420 = .ok (.iaload, 1)) rfl (by omega) (by omega) ?_
  refine g_callVI [.int (xs (i + 1)), .int (xs (i + 2)), .int (xs (i + 3))] (by decide +kernel : decode code 1421 = .ok (.invokevirtual 172, 3)) lk_Law_172 (st_put hJ (xs (i + 1)) (xs (i + 2)) (xs (i + 3))) rfl rfl rfl rfl (Nat.le_of_ble_eq_true rfl) (Nat.le_of_ble_eq_true rfl) (fun r1421 s1421 h1421 => ?_)
  refine g_aload_n (by decide +kernel : decode code 1424 = .ok (.aload_n 2, 1)) rfl ?_
  refine g_aload_n (by decide +kernel : decode code 1425 = .ok (.aload_n 0, 1)) rfl ?_
  refine g_iload_n (by decide +kernel : decode code 1426 = .ok (.iload_n 3, 1)) rfl ?_
  refine g_iconst (v := nI 1) (by decide +kernel : decode code 1427 = .ok (.iconst 1, 1)) (by decide) ?_
  refine g_iaddN (by decide +kernel : decode code 1428 = .ok (.iadd, 1)) ?_
  refine g_sld hX (by decide +kernel : decode code 1429 = .ok (.iaload, 1)) rfl (by omega) (by omega) ?_
  refine g_aload_n (by decide +kernel : decode code 1430 = .ok (.aload_n 0, 1)) rfl ?_
  refine g_iload_n (by decide +kernel : decode code 1431 = .ok (.iload_n 3, 1)) rfl ?_
  refine g_iconst (v := nI 2) (by decide +kernel : decode code 1432 = .ok (.iconst 2, 1)) (by decide) ?_
  refine g_iaddN (by decide +kernel : decode code 1433 = .ok (.iadd, 1)) ?_
  refine g_sld hX (by decide +kernel : decode code 1434 = .ok (.iaload, 1)) rfl (by omega) (by omega) ?_
  refine g_aload_n (by decide +kernel : decode code 1435 = .ok (.aload_n 0, 1)) rfl ?_
  refine g_iload_n (by decide +kernel : decode code 1436 = .ok (.iload_n 3, 1)) rfl ?_
  refine g_iconst (v := nI 3) (by decide +kernel : decode code 1437 = .ok (.iconst 3, 1)) (by decide) ?_
  refine g_iaddN (by decide +kernel : decode code 1438 = .ok (.iadd, 1)) ?_
  refine g_sld hX (by decide +kernel : decode code 1439 = .ok (.iaload, 1)) rfl (by omega) (by omega) ?_
  refine g_callVI [.int (xs (i + 1)), .int (xs (i + 2)), .int (xs (i + 3))] (by decide +kernel : decode code 1440 = .ok (.invokevirtual 175, 3)) lk_Law_175 (h1421) rfl rfl rfl rfl (Nat.le_of_ble_eq_true rfl) (Nat.le_of_ble_eq_true rfl) (fun r1440 s1440 h1440 => ?_)
  obtain ⟨e9, j9⟩ := h1440
  refine g_icmp_eq (tgt := 1682) (by decide +kernel : decode code 1443 = .ok (.if_icmp .eq 239, 3)) (by decide) (fun _ => kk _ j9) (fun q => absurd e9 q)
set_option maxRecDepth 20000 in
/-- item -/
theorem law_c38 {X : CX} {b L i : Nat} {xs : Nat → Int32} {σ : Store} (hX : SX X b L xs) (hL : L ≤ 3072) (hi : i + 6 ≤ L) (hJ : Jv σ) (kk : ∀ σ', Jv σ' → G (ΛL, mt_Law, 30) X σ' [some (.ref 1300), some (.ref 0), some (.ref 43), some (.int (nI i))] [] 1682) : G (ΛL, mt_Law, 30) X σ [some (.ref 1300), some (.ref 0), some (.ref 43), some (.int (nI i))] [] 1448 := by
  refine g_aload_n (by decide +kernel : decode code 1448 = .ok (.aload_n 1, 1)) rfl ?_
  refine g_aload_n (by decide +kernel : decode code 1449 = .ok (.aload_n 0, 1)) rfl ?_
  refine g_iload_n (by decide +kernel : decode code 1450 = .ok (.iload_n 3, 1)) rfl ?_
  refine g_iconst (v := nI 1) (by decide +kernel : decode code 1451 = .ok (.iconst 1, 1)) (by decide) ?_
  refine g_iaddN (by decide +kernel : decode code 1452 = .ok (.iadd, 1)) ?_
  refine g_sld hX (by decide +kernel : decode code 1453 = .ok (.iaload, 1)) rfl (by omega) (by omega) ?_
  refine g_aload_n (by decide +kernel : decode code 1454 = .ok (.aload_n 0, 1)) rfl ?_
  refine g_iload_n (by decide +kernel : decode code 1455 = .ok (.iload_n 3, 1)) rfl ?_
  refine g_iconst (v := nI 2) (by decide +kernel : decode code 1456 = .ok (.iconst 2, 1)) (by decide) ?_
  refine g_iaddN (by decide +kernel : decode code 1457 = .ok (.iadd, 1)) ?_
  refine g_sld hX (by decide +kernel : decode code 1458 = .ok (.iaload, 1)) rfl (by omega) (by omega) ?_
  refine g_aload_n (by decide +kernel : decode code 1459 = .ok (.aload_n 0, 1)) rfl ?_
  refine g_iload_n (by decide +kernel : decode code 1460 = .ok (.iload_n 3, 1)) rfl ?_
  refine g_iconst (v := nI 3) (by decide +kernel : decode code 1461 = .ok (.iconst 3, 1)) (by decide) ?_
  refine g_iaddN (by decide +kernel : decode code 1462 = .ok (.iadd, 1)) ?_
  refine g_sld hX (by decide +kernel : decode code 1463 = .ok (.iaload, 1)) rfl (by omega) (by omega) ?_
  refine g_callVI [.int (xs (i + 1)), .int (xs (i + 2)), .int (xs (i + 3))] (by decide +kernel : decode code 1464 = .ok (.invokevirtual 176, 3)) lk_Law_176 (st_item hJ (xs (i + 1)) (xs (i + 2)) (xs (i + 3))) rfl rfl rfl rfl (Nat.le_of_ble_eq_true rfl) (Nat.le_of_ble_eq_true rfl) (fun r1464 s1464 h1464 => ?_)
  refine g_aload_n (by decide +kernel : decode code 1467 = .ok (.aload_n 2, 1)) rfl ?_
  refine g_aload_n (by decide +kernel : decode code 1468 = .ok (.aload_n 0, 1)) rfl ?_
  refine g_iload_n (by decide +kernel : decode code 1469 = .ok (.iload_n 3, 1)) rfl ?_
  refine g_iconst (v := nI 1) (by decide +kernel : decode code 1470 = .ok (.iconst 1, 1)) (by decide) ?_
  refine g_iaddN (by decide +kernel : decode code 1471 = .ok (.iadd, 1)) ?_
  refine g_sld hX (by decide +kernel : decode code 1472 = .ok (.iaload, 1)) rfl (by omega) (by omega) ?_
  refine g_aload_n (by decide +kernel : decode code 1473 = .ok (.aload_n 0, 1)) rfl ?_
  refine g_iload_n (by decide +kernel : decode code 1474 = .ok (.iload_n 3, 1)) rfl ?_
  refine g_iconst (v := nI 2) (by decide +kernel : decode code 1475 = .ok (.iconst 2, 1)) (by decide) ?_
  refine g_iaddN (by decide +kernel : decode code 1476 = .ok (.iadd, 1)) ?_
  refine g_sld hX (by decide +kernel : decode code 1477 = .ok (.iaload, 1)) rfl (by omega) (by omega) ?_
  refine g_aload_n (by decide +kernel : decode code 1478 = .ok (.aload_n 0, 1)) rfl ?_
  refine g_iload_n (by decide +kernel : decode code 1479 = .ok (.iload_n 3, 1)) rfl ?_
  refine g_iconst (v := nI 3) (by decide +kernel : decode code 1480 = .ok (.iconst 3, 1)) (by decide) ?_
  refine g_iaddN (by decide +kernel : decode code 1481 = .ok (.iadd, 1)) ?_
  refine g_sld hX (by decide +kernel : decode code 1482 = .ok (.iaload, 1)) rfl (by omega) (by omega) ?_
  refine g_callVI [.int (xs (i + 1)), .int (xs (i + 2)), .int (xs (i + 3))] (by decide +kernel : decode code 1483 = .ok (.invokevirtual 179, 3)) lk_Law_179 (h1464) rfl rfl rfl rfl (Nat.le_of_ble_eq_true rfl) (Nat.le_of_ble_eq_true rfl) (fun r1483 s1483 h1483 => ?_)
  obtain ⟨e9, j9⟩ := h1483
  refine g_icmp_eq (tgt := 1682) (by decide +kernel : decode code 1486 = .ok (.if_icmp .eq 196, 3)) (by decide) (fun _ => kk _ j9) (fun q => absurd e9 q)
set_option maxRecDepth 20000 in
/-- shelf -/
theorem law_c39 {X : CX} {b L i : Nat} {xs : Nat → Int32} {σ : Store} (hX : SX X b L xs) (hL : L ≤ 3072) (hi : i + 6 ≤ L) (hJ : Jv σ) (kk : ∀ σ', Jv σ' → G (ΛL, mt_Law, 30) X σ' [some (.ref 1300), some (.ref 0), some (.ref 43), some (.int (nI i))] [] 1682) : G (ΛL, mt_Law, 30) X σ [some (.ref 1300), some (.ref 0), some (.ref 43), some (.int (nI i))] [] 1491 := by
  refine g_aload_n (by decide +kernel : decode code 1491 = .ok (.aload_n 1, 1)) rfl ?_
  refine g_aload_n (by decide +kernel : decode code 1492 = .ok (.aload_n 0, 1)) rfl ?_
  refine g_iload_n (by decide +kernel : decode code 1493 = .ok (.iload_n 3, 1)) rfl ?_
  refine g_iconst (v := nI 1) (by decide +kernel : decode code 1494 = .ok (.iconst 1, 1)) (by decide) ?_
  refine g_iaddN (by decide +kernel : decode code 1495 = .ok (.iadd, 1)) ?_
  refine g_sld hX (by decide +kernel : decode code 1496 = .ok (.iaload, 1)) rfl (by omega) (by omega) ?_
  refine g_aload_n (by decide +kernel : decode code 1497 = .ok (.aload_n 0, 1)) rfl ?_
  refine g_iload_n (by decide +kernel : decode code 1498 = .ok (.iload_n 3, 1)) rfl ?_
  refine g_iconst (v := nI 2) (by decide +kernel : decode code 1499 = .ok (.iconst 2, 1)) (by decide) ?_
  refine g_iaddN (by decide +kernel : decode code 1500 = .ok (.iadd, 1)) ?_
  refine g_sld hX (by decide +kernel : decode code 1501 = .ok (.iaload, 1)) rfl (by omega) (by omega) ?_
  refine g_aload_n (by decide +kernel : decode code 1502 = .ok (.aload_n 0, 1)) rfl ?_
  refine g_iload_n (by decide +kernel : decode code 1503 = .ok (.iload_n 3, 1)) rfl ?_
  refine g_iconst (v := nI 3) (by decide +kernel : decode code 1504 = .ok (.iconst 3, 1)) (by decide) ?_
  refine g_iaddN (by decide +kernel : decode code 1505 = .ok (.iadd, 1)) ?_
  refine g_sld hX (by decide +kernel : decode code 1506 = .ok (.iaload, 1)) rfl (by omega) (by omega) ?_
  refine g_callVI [.int (xs (i + 1)), .int (xs (i + 2)), .int (xs (i + 3))] (by decide +kernel : decode code 1507 = .ok (.invokevirtual 180, 3)) lk_Law_180 (st_shelf hJ (xs (i + 1)) (xs (i + 2)) (xs (i + 3))) rfl rfl rfl rfl (Nat.le_of_ble_eq_true rfl) (Nat.le_of_ble_eq_true rfl) (fun r1507 s1507 h1507 => ?_)
  refine g_aload_n (by decide +kernel : decode code 1510 = .ok (.aload_n 2, 1)) rfl ?_
  refine g_aload_n (by decide +kernel : decode code 1511 = .ok (.aload_n 0, 1)) rfl ?_
  refine g_iload_n (by decide +kernel : decode code 1512 = .ok (.iload_n 3, 1)) rfl ?_
  refine g_iconst (v := nI 1) (by decide +kernel : decode code 1513 = .ok (.iconst 1, 1)) (by decide) ?_
  refine g_iaddN (by decide +kernel : decode code 1514 = .ok (.iadd, 1)) ?_
  refine g_sld hX (by decide +kernel : decode code 1515 = .ok (.iaload, 1)) rfl (by omega) (by omega) ?_
  refine g_aload_n (by decide +kernel : decode code 1516 = .ok (.aload_n 0, 1)) rfl ?_
  refine g_iload_n (by decide +kernel : decode code 1517 = .ok (.iload_n 3, 1)) rfl ?_
  refine g_iconst (v := nI 2) (by decide +kernel : decode code 1518 = .ok (.iconst 2, 1)) (by decide) ?_
  refine g_iaddN (by decide +kernel : decode code 1519 = .ok (.iadd, 1)) ?_
  refine g_sld hX (by decide +kernel : decode code 1520 = .ok (.iaload, 1)) rfl (by omega) (by omega) ?_
  refine g_aload_n (by decide +kernel : decode code 1521 = .ok (.aload_n 0, 1)) rfl ?_
  refine g_iload_n (by decide +kernel : decode code 1522 = .ok (.iload_n 3, 1)) rfl ?_
  refine g_iconst (v := nI 3) (by decide +kernel : decode code 1523 = .ok (.iconst 3, 1)) (by decide) ?_
  refine g_iaddN (by decide +kernel : decode code 1524 = .ok (.iadd, 1)) ?_
  refine g_sld hX (by decide +kernel : decode code 1525 = .ok (.iaload, 1)) rfl (by omega) (by omega) ?_
  refine g_callVI [.int (xs (i + 1)), .int (xs (i + 2)), .int (xs (i + 3))] (by decide +kernel : decode code 1526 = .ok (.invokevirtual 183, 3)) lk_Law_183 (h1507) rfl rfl rfl rfl (Nat.le_of_ble_eq_true rfl) (Nat.le_of_ble_eq_true rfl) (fun r1526 s1526 h1526 => ?_)
  obtain ⟨e9, j9⟩ := h1526
  refine g_icmp_eq (tgt := 1682) (by decide +kernel : decode code 1529 = .ok (.if_icmp .eq 153, 3)) (by decide) (fun _ => kk _ j9) (fun q => absurd e9 q)
set_option maxRecDepth 20000 in
/-- taken -/
theorem law_c40 {X : CX} {b L i : Nat} {xs : Nat → Int32} {σ : Store} (hX : SX X b L xs) (hL : L ≤ 3072) (hi : i + 6 ≤ L) (hJ : Jv σ) (kk : ∀ σ', Jv σ' → G (ΛL, mt_Law, 30) X σ' [some (.ref 1300), some (.ref 0), some (.ref 43), some (.int (nI i))] [] 1682) : G (ΛL, mt_Law, 30) X σ [some (.ref 1300), some (.ref 0), some (.ref 43), some (.int (nI i))] [] 1534 := by
  refine g_aload_n (by decide +kernel : decode code 1534 = .ok (.aload_n 1, 1)) rfl ?_
  refine g_aload_n (by decide +kernel : decode code 1535 = .ok (.aload_n 0, 1)) rfl ?_
  refine g_iload_n (by decide +kernel : decode code 1536 = .ok (.iload_n 3, 1)) rfl ?_
  refine g_iconst (v := nI 1) (by decide +kernel : decode code 1537 = .ok (.iconst 1, 1)) (by decide) ?_
  refine g_iaddN (by decide +kernel : decode code 1538 = .ok (.iadd, 1)) ?_
  refine g_sld hX (by decide +kernel : decode code 1539 = .ok (.iaload, 1)) rfl (by omega) (by omega) ?_
  refine g_aload_n (by decide +kernel : decode code 1540 = .ok (.aload_n 0, 1)) rfl ?_
  refine g_iload_n (by decide +kernel : decode code 1541 = .ok (.iload_n 3, 1)) rfl ?_
  refine g_iconst (v := nI 2) (by decide +kernel : decode code 1542 = .ok (.iconst 2, 1)) (by decide) ?_
  refine g_iaddN (by decide +kernel : decode code 1543 = .ok (.iadd, 1)) ?_
  refine g_sld hX (by decide +kernel : decode code 1544 = .ok (.iaload, 1)) rfl (by omega) (by omega) ?_
  refine g_callVI [.int (xs (i + 1)), .int (xs (i + 2))] (by decide +kernel : decode code 1545 = .ok (.invokevirtual 184, 3)) lk_Law_184 (st_taken hJ (xs (i + 1)) (xs (i + 2))) rfl rfl rfl rfl (Nat.le_of_ble_eq_true rfl) (Nat.le_of_ble_eq_true rfl) (fun r1545 s1545 h1545 => ?_)
  refine g_aload_n (by decide +kernel : decode code 1548 = .ok (.aload_n 2, 1)) rfl ?_
  refine g_aload_n (by decide +kernel : decode code 1549 = .ok (.aload_n 0, 1)) rfl ?_
  refine g_iload_n (by decide +kernel : decode code 1550 = .ok (.iload_n 3, 1)) rfl ?_
  refine g_iconst (v := nI 1) (by decide +kernel : decode code 1551 = .ok (.iconst 1, 1)) (by decide) ?_
  refine g_iaddN (by decide +kernel : decode code 1552 = .ok (.iadd, 1)) ?_
  refine g_sld hX (by decide +kernel : decode code 1553 = .ok (.iaload, 1)) rfl (by omega) (by omega) ?_
  refine g_aload_n (by decide +kernel : decode code 1554 = .ok (.aload_n 0, 1)) rfl ?_
  refine g_iload_n (by decide +kernel : decode code 1555 = .ok (.iload_n 3, 1)) rfl ?_
  refine g_iconst (v := nI 2) (by decide +kernel : decode code 1556 = .ok (.iconst 2, 1)) (by decide) ?_
  refine g_iaddN (by decide +kernel : decode code 1557 = .ok (.iadd, 1)) ?_
  refine g_sld hX (by decide +kernel : decode code 1558 = .ok (.iaload, 1)) rfl (by omega) (by omega) ?_
  refine g_callVI [.int (xs (i + 1)), .int (xs (i + 2))] (by decide +kernel : decode code 1559 = .ok (.invokevirtual 187, 3)) lk_Law_187 (h1545) rfl rfl rfl rfl (Nat.le_of_ble_eq_true rfl) (Nat.le_of_ble_eq_true rfl) (fun r1559 s1559 h1559 => ?_)
  obtain ⟨e9, j9⟩ := h1559
  refine g_icmp_eq (tgt := 1682) (by decide +kernel : decode code 1562 = .ok (.if_icmp .eq 120, 3)) (by decide) (fun _ => kk _ j9) (fun q => absurd e9 q)
set_option maxRecDepth 20000 in
/-- act -/
theorem law_c41 {X : CX} {b L i : Nat} {xs : Nat → Int32} {σ : Store} (hX : SX X b L xs) (hL : L ≤ 3072) (hi : i + 6 ≤ L) (hJ : Jv σ) (kk : ∀ σ', Jv σ' → G (ΛL, mt_Law, 30) X σ' [some (.ref 1300), some (.ref 0), some (.ref 43), some (.int (nI i))] [] 1682) : G (ΛL, mt_Law, 30) X σ [some (.ref 1300), some (.ref 0), some (.ref 43), some (.int (nI i))] [] 1567 := by
  refine g_aload_n (by decide +kernel : decode code 1567 = .ok (.aload_n 1, 1)) rfl ?_
  refine g_aload_n (by decide +kernel : decode code 1568 = .ok (.aload_n 0, 1)) rfl ?_
  refine g_iload_n (by decide +kernel : decode code 1569 = .ok (.iload_n 3, 1)) rfl ?_
  refine g_iconst (v := nI 1) (by decide +kernel : decode code 1570 = .ok (.iconst 1, 1)) (by decide) ?_
  refine g_iaddN (by decide +kernel : decode code 1571 = .ok (.iadd, 1)) ?_
  refine g_sld hX (by decide +kernel : decode code 1572 = .ok (.iaload, 1)) rfl (by omega) (by omega) ?_
  refine g_aload_n (by decide +kernel : decode code 1573 = .ok (.aload_n 0, 1)) rfl ?_
  refine g_iload_n (by decide +kernel : decode code 1574 = .ok (.iload_n 3, 1)) rfl ?_
  refine g_iconst (v := nI 2) (by decide +kernel : decode code 1575 = .ok (.iconst 2, 1)) (by decide) ?_
  refine g_iaddN (by decide +kernel : decode code 1576 = .ok (.iadd, 1)) ?_
  refine g_sld hX (by decide +kernel : decode code 1577 = .ok (.iaload, 1)) rfl (by omega) (by omega) ?_
  refine g_aload_n (by decide +kernel : decode code 1578 = .ok (.aload_n 0, 1)) rfl ?_
  refine g_iload_n (by decide +kernel : decode code 1579 = .ok (.iload_n 3, 1)) rfl ?_
  refine g_iconst (v := nI 3) (by decide +kernel : decode code 1580 = .ok (.iconst 3, 1)) (by decide) ?_
  refine g_iaddN (by decide +kernel : decode code 1581 = .ok (.iadd, 1)) ?_
  refine g_sld hX (by decide +kernel : decode code 1582 = .ok (.iaload, 1)) rfl (by omega) (by omega) ?_
  refine g_callVI [.int (xs (i + 1)), .int (xs (i + 2)), .int (xs (i + 3))] (by decide +kernel : decode code 1583 = .ok (.invokevirtual 188, 3)) lk_Law_188 (st_act hJ (xs (i + 1)) (xs (i + 2)) (xs (i + 3))) rfl rfl rfl rfl (Nat.le_of_ble_eq_true rfl) (Nat.le_of_ble_eq_true rfl) (fun r1583 s1583 h1583 => ?_)
  refine g_aload_n (by decide +kernel : decode code 1586 = .ok (.aload_n 2, 1)) rfl ?_
  refine g_aload_n (by decide +kernel : decode code 1587 = .ok (.aload_n 0, 1)) rfl ?_
  refine g_iload_n (by decide +kernel : decode code 1588 = .ok (.iload_n 3, 1)) rfl ?_
  refine g_iconst (v := nI 1) (by decide +kernel : decode code 1589 = .ok (.iconst 1, 1)) (by decide) ?_
  refine g_iaddN (by decide +kernel : decode code 1590 = .ok (.iadd, 1)) ?_
  refine g_sld hX (by decide +kernel : decode code 1591 = .ok (.iaload, 1)) rfl (by omega) (by omega) ?_
  refine g_aload_n (by decide +kernel : decode code 1592 = .ok (.aload_n 0, 1)) rfl ?_
  refine g_iload_n (by decide +kernel : decode code 1593 = .ok (.iload_n 3, 1)) rfl ?_
  refine g_iconst (v := nI 2) (by decide +kernel : decode code 1594 = .ok (.iconst 2, 1)) (by decide) ?_
  refine g_iaddN (by decide +kernel : decode code 1595 = .ok (.iadd, 1)) ?_
  refine g_sld hX (by decide +kernel : decode code 1596 = .ok (.iaload, 1)) rfl (by omega) (by omega) ?_
  refine g_aload_n (by decide +kernel : decode code 1597 = .ok (.aload_n 0, 1)) rfl ?_
  refine g_iload_n (by decide +kernel : decode code 1598 = .ok (.iload_n 3, 1)) rfl ?_
  refine g_iconst (v := nI 3) (by decide +kernel : decode code 1599 = .ok (.iconst 3, 1)) (by decide) ?_
  refine g_iaddN (by decide +kernel : decode code 1600 = .ok (.iadd, 1)) ?_
  refine g_sld hX (by decide +kernel : decode code 1601 = .ok (.iaload, 1)) rfl (by omega) (by omega) ?_
  refine g_callVI [.int (xs (i + 1)), .int (xs (i + 2)), .int (xs (i + 3))] (by decide +kernel : decode code 1602 = .ok (.invokevirtual 191, 3)) lk_Law_191 (h1583) rfl rfl rfl rfl (Nat.le_of_ble_eq_true rfl) (Nat.le_of_ble_eq_true rfl) (fun r1602 s1602 h1602 => ?_)
  obtain ⟨e9, j9⟩ := h1602
  refine g_icmp_eq (tgt := 1682) (by decide +kernel : decode code 1605 = .ok (.if_icmp .eq 77, 3)) (by decide) (fun _ => kk _ j9) (fun q => absurd e9 q)
set_option maxRecDepth 20000 in
/-- trace -/
theorem law_c42 {X : CX} {b L i : Nat} {xs : Nat → Int32} {σ : Store} (hX : SX X b L xs) (hL : L ≤ 3072) (hi : i + 6 ≤ L) (hJ : Jv σ) (kk : ∀ σ', Jv σ' → G (ΛL, mt_Law, 30) X σ' [some (.ref 1300), some (.ref 0), some (.ref 43), some (.int (nI i))] [] 1682) : G (ΛL, mt_Law, 30) X σ [some (.ref 1300), some (.ref 0), some (.ref 43), some (.int (nI i))] [] 1610 := by
  refine g_aload_n (by decide +kernel : decode code 1610 = .ok (.aload_n 1, 1)) rfl ?_
  refine g_aload_n (by decide +kernel : decode code 1611 = .ok (.aload_n 0, 1)) rfl ?_
  refine g_iload_n (by decide +kernel : decode code 1612 = .ok (.iload_n 3, 1)) rfl ?_
  refine g_iconst (v := nI 1) (by decide +kernel : decode code 1613 = .ok (.iconst 1, 1)) (by decide) ?_
  refine g_iaddN (by decide +kernel : decode code 1614 = .ok (.iadd, 1)) ?_
  refine g_sld hX (by decide +kernel : decode code 1615 = .ok (.iaload, 1)) rfl (by omega) (by omega) ?_
  refine g_callVI [.int (xs (i + 1))] (by decide +kernel : decode code 1616 = .ok (.invokevirtual 192, 3)) lk_Law_192 (st_trace hJ (xs (i + 1))) rfl rfl rfl rfl (Nat.le_of_ble_eq_true rfl) (Nat.le_of_ble_eq_true rfl) (fun r1616 s1616 h1616 => ?_)
  refine g_aload_n (by decide +kernel : decode code 1619 = .ok (.aload_n 2, 1)) rfl ?_
  refine g_aload_n (by decide +kernel : decode code 1620 = .ok (.aload_n 0, 1)) rfl ?_
  refine g_iload_n (by decide +kernel : decode code 1621 = .ok (.iload_n 3, 1)) rfl ?_
  refine g_iconst (v := nI 1) (by decide +kernel : decode code 1622 = .ok (.iconst 1, 1)) (by decide) ?_
  refine g_iaddN (by decide +kernel : decode code 1623 = .ok (.iadd, 1)) ?_
  refine g_sld hX (by decide +kernel : decode code 1624 = .ok (.iaload, 1)) rfl (by omega) (by omega) ?_
  refine g_callVI [.int (xs (i + 1))] (by decide +kernel : decode code 1625 = .ok (.invokevirtual 195, 3)) lk_Law_195 (h1616) rfl rfl rfl rfl (Nat.le_of_ble_eq_true rfl) (Nat.le_of_ble_eq_true rfl) (fun r1625 s1625 h1625 => ?_)
  obtain ⟨e9, j9⟩ := h1625
  refine g_icmp_eq (tgt := 1682) (by decide +kernel : decode code 1628 = .ok (.if_icmp .eq 54, 3)) (by decide) (fun _ => kk _ j9) (fun q => absurd e9 q)
set_option maxRecDepth 20000 in
/-- many -/
theorem law_c43 {X : CX} {b L i : Nat} {xs : Nat → Int32} {σ : Store} (hX : SX X b L xs) (hL : L ≤ 3072) (hi : i + 6 ≤ L) (hJ : Jv σ) (kk : ∀ σ', Jv σ' → G (ΛL, mt_Law, 30) X σ' [some (.ref 1300), some (.ref 0), some (.ref 43), some (.int (nI i))] [] 1682) : G (ΛL, mt_Law, 30) X σ [some (.ref 1300), some (.ref 0), some (.ref 43), some (.int (nI i))] [] 1633 := by
  refine g_aload_n (by decide +kernel : decode code 1633 = .ok (.aload_n 1, 1)) rfl ?_
  refine g_aload_n (by decide +kernel : decode code 1634 = .ok (.aload_n 0, 1)) rfl ?_
  refine g_iload_n (by decide +kernel : decode code 1635 = .ok (.iload_n 3, 1)) rfl ?_
  refine g_iconst (v := nI 1) (by decide +kernel : decode code 1636 = .ok (.iconst 1, 1)) (by decide) ?_
  refine g_iaddN (by decide +kernel : decode code 1637 = .ok (.iadd, 1)) ?_
  refine g_sld hX (by decide +kernel : decode code 1638 = .ok (.iaload, 1)) rfl (by omega) (by omega) ?_
  refine g_callVI [.int (xs (i + 1))] (by decide +kernel : decode code 1639 = .ok (.invokevirtual 196, 3)) lk_Law_196 (st_many hJ (xs (i + 1))) rfl rfl rfl rfl (Nat.le_of_ble_eq_true rfl) (Nat.le_of_ble_eq_true rfl) (fun r1639 s1639 h1639 => ?_)
  refine g_aload_n (by decide +kernel : decode code 1642 = .ok (.aload_n 2, 1)) rfl ?_
  refine g_aload_n (by decide +kernel : decode code 1643 = .ok (.aload_n 0, 1)) rfl ?_
  refine g_iload_n (by decide +kernel : decode code 1644 = .ok (.iload_n 3, 1)) rfl ?_
  refine g_iconst (v := nI 1) (by decide +kernel : decode code 1645 = .ok (.iconst 1, 1)) (by decide) ?_
  refine g_iaddN (by decide +kernel : decode code 1646 = .ok (.iadd, 1)) ?_
  refine g_sld hX (by decide +kernel : decode code 1647 = .ok (.iaload, 1)) rfl (by omega) (by omega) ?_
  refine g_callVI [.int (xs (i + 1))] (by decide +kernel : decode code 1648 = .ok (.invokevirtual 199, 3)) lk_Law_199 (h1639) rfl rfl rfl rfl (Nat.le_of_ble_eq_true rfl) (Nat.le_of_ble_eq_true rfl) (fun r1648 s1648 h1648 => ?_)
  obtain ⟨e9, j9⟩ := h1648
  refine g_icmp_eq (tgt := 1682) (by decide +kernel : decode code 1651 = .ok (.if_icmp .eq 31, 3)) (by decide) (fun _ => kk _ j9) (fun q => absurd e9 q)
set_option maxRecDepth 20000 in
/-- keep -/
theorem law_c44 {X : CX} {b L i : Nat} {xs : Nat → Int32} {σ : Store} (hX : SX X b L xs) (hL : L ≤ 3072) (hi : i + 6 ≤ L) (hJ : Jv σ) (kk : ∀ σ', Jv σ' → G (ΛL, mt_Law, 30) X σ' [some (.ref 1300), some (.ref 0), some (.ref 43), some (.int (nI i))] [] 1682) : G (ΛL, mt_Law, 30) X σ [some (.ref 1300), some (.ref 0), some (.ref 43), some (.int (nI i))] [] 1656 := by
  refine g_aload_n (by decide +kernel : decode code 1656 = .ok (.aload_n 1, 1)) rfl ?_
  refine g_callVI [] (by decide +kernel : decode code 1657 = .ok (.invokevirtual 200, 3)) lk_Law_200 (st_keep hJ ) rfl rfl rfl rfl (Nat.le_of_ble_eq_true rfl) (Nat.le_of_ble_eq_true rfl) (fun r1657 s1657 h1657 => ?_)
  refine g_aload_n (by decide +kernel : decode code 1660 = .ok (.aload_n 2, 1)) rfl ?_
  refine g_callVI [] (by decide +kernel : decode code 1661 = .ok (.invokevirtual 203, 3)) lk_Law_203 (h1657) rfl rfl rfl rfl (Nat.le_of_ble_eq_true rfl) (Nat.le_of_ble_eq_true rfl) (fun r1661 s1661 h1661 => ?_)
  obtain ⟨e9, j9⟩ := h1661
  refine g_icmp_eq (tgt := 1682) (by decide +kernel : decode code 1664 = .ok (.if_icmp .eq 18, 3)) (by decide) (fun _ => kk _ j9) (fun q => absurd e9 q)
set_option maxRecDepth 20000 in
/-- again -/
theorem law_c45 {X : CX} {b L i : Nat} {xs : Nat → Int32} {σ : Store} (hX : SX X b L xs) (hL : L ≤ 3072) (hi : i + 6 ≤ L) (hJ : Jv σ) (kk : ∀ σ', Jv σ' → G (ΛL, mt_Law, 30) X σ' [some (.ref 1300), some (.ref 0), some (.ref 43), some (.int (nI i))] [] 1682) : G (ΛL, mt_Law, 30) X σ [some (.ref 1300), some (.ref 0), some (.ref 43), some (.int (nI i))] [] 1669 := by
  refine g_aload_n (by decide +kernel : decode code 1669 = .ok (.aload_n 1, 1)) rfl ?_
  refine g_callVI [] (by decide +kernel : decode code 1670 = .ok (.invokevirtual 204, 3)) lk_Law_204 (st_again hJ ) rfl rfl rfl rfl (Nat.le_of_ble_eq_true rfl) (Nat.le_of_ble_eq_true rfl) (fun r1670 s1670 h1670 => ?_)
  refine g_aload_n (by decide +kernel : decode code 1673 = .ok (.aload_n 2, 1)) rfl ?_
  refine g_callVI [] (by decide +kernel : decode code 1674 = .ok (.invokevirtual 207, 3)) lk_Law_207 (h1670) rfl rfl rfl rfl (Nat.le_of_ble_eq_true rfl) (Nat.le_of_ble_eq_true rfl) (fun r1674 s1674 h1674 => ?_)
  obtain ⟨e9, j9⟩ := h1674
  refine g_icmp_eq (tgt := 1682) (by decide +kernel : decode code 1677 = .ok (.if_icmp .eq 5, 3)) (by decide) (fun _ => kk _ j9) (fun q => absurd e9 q)
set_option maxRecDepth 20000 in
theorem d_sw : decode code 33 = .ok (.tableswitch 1649 0 45 #[199, 262, 275, 308, 331, 394, 427, 460, 503, 536, 569, 602, 635, 668, 691, 714, 727, 750, 773, 806, 829, 842, 865, 888, 911, 944, 967, 1000, 1023, 1066, 1110, 1144, 1177, 1210, 1253, 1276, 1329, 1372, 1415, 1458, 1501, 1534, 1577, 1600, 1623, 1636], 199) := by decide +kernel
set_option maxRecDepth 20000 in
theorem law_loop {X : CX} {b L : Nat} {xs : Nat → Int32} (hX : SX X b L xs) (hL : L ≤ 3072) (hR : RtW X b) : ∀ (b9 i : Nat) (σ : Store), Jv σ → i ≤ L + 6 → L + 6 - i < b9 → G (ΛL, mt_Law, 30) X σ [some (.ref 1300), some (.ref 0), some (.ref 43), some (.int (nI i))] [] 18 := by
  intro b9
  induction b9 with
  | zero => intro i σ hJ hi hb; omega
  | succ b9 ih =>
  intro i σ hJ hi hb
  refine g_iload_n (by decide +kernel : decode code 18 = .ok (.iload_n 3, 1)) rfl ?_
  refine g_aload_n (by decide +kernel : decode code 19 = .ok (.aload_n 0, 1)) rfl ?_
  refine g_slen hX (by decide +kernel : decode code 20 = .ok (.arraylength, 1)) ?_
  refine g_bipush (v := nI 6) (by decide +kernel : decode code 21 = .ok (.bipush 6, 2)) (by decide) ?_
  refine g_isub (by decide +kernel : decode code 23 = .ok (.isub, 1)) ?_
  refine g_icmp_gt (tgt := 1688) (by decide +kernel : decode code 24 = .ok (.if_icmp .gt 1664, 3)) (by decide) (fun _ => ?_) (fun h24 => ?_)
  · refine g_iconst (v := nI 1) (by decide +kernel : decode code 1688 = .ok (.iconst 1, 1)) (by decide) ?_
    exact g_lawret hR (by decide +kernel : decode code 1689 = .ok (.ireturn, 1))
  · have h6 := le_6 hL (by omega) h24
    have kk : ∀ σ', Jv σ' → G (ΛL, mt_Law, 30) X σ' [some (.ref 1300), some (.ref 0), some (.ref 43), some (.int (nI i))] [] 1682 := by
      intro σ1 j1
      refine g_iincN (n := 6) (L' := [some (.ref 1300), some (.ref 0), some (.ref 43), some (.int (nI (i + 6)))]) (by decide +kernel : decode code 1682 = .ok (.iinc 3 6, 3)) rfl (by decide) (Nat.le_of_ble_eq_true rfl) rfl ?_
      refine g_goto (tgt := 18) (by decide +kernel : decode code 1685 = .ok (.goto (-1667), 3)) (by decide) ?_
      exact ih (i + 6) σ1 j1 (by omega) (by omega)
    refine g_aload_n (by decide +kernel : decode code 27 = .ok (.aload_n 0, 1)) rfl ?_
    refine g_iload_n (by decide +kernel : decode code 28 = .ok (.iload_n 3, 1)) rfl ?_
    refine g_sld hX (by decide +kernel : decode code 29 = .ok (.iaload, 1)) rfl (by omega) (by omega) ?_
    refine g_bipush (v := nI 63) (by decide +kernel : decode code 30 = .ok (.bipush 63, 2)) (by decide) ?_
    refine g_iand (by decide +kernel : decode code 32 = .ok (.iand, 1)) ?_
    generalize xs i &&& nI 63 = v
    rcases sw_in v 46 (by decide) with ⟨j, hj, rfl⟩ | ⟨ho, hno⟩
    · match j, hj with
      | 0, _ => exact g_tableIn (x := nI 0) (off := 199) (tgt := 232) d_sw (by decide) (by decide) rfl (by decide) (law_c0 hX hL h6 hJ kk)
      | 1, _ => exact g_tableIn (x := nI 1) (off := 262) (tgt := 295) d_sw (by decide) (by decide) rfl (by decide) (law_c1 hX hL h6 hJ kk)
      | 2, _ => exact g_tableIn (x := nI 2) (off := 275) (tgt := 308) d_sw (by decide) (by decide) rfl (by decide) (law_c2 hX hL h6 hJ kk)
      | 3, _ => exact g_tableIn (x := nI 3) (off := 308) (tgt := 341) d_sw (by decide) (by decide) rfl (by decide) (law_c3 hX hL h6 hJ kk)
      | 4, _ => exact g_tableIn (x := nI 4) (off := 331) (tgt := 364) d_sw (by decide) (by decide) rfl (by decide) (law_c4 hX hL h6 hJ kk)
      | 5, _ => exact g_tableIn (x := nI 5) (off := 394) (tgt := 427) d_sw (by decide) (by decide) rfl (by decide) (law_c5 hX hL h6 hJ kk)
      | 6, _ => exact g_tableIn (x := nI 6) (off := 427) (tgt := 460) d_sw (by decide) (by decide) rfl (by decide) (law_c6 hX hL h6 hJ kk)
      | 7, _ => exact g_tableIn (x := nI 7) (off := 460) (tgt := 493) d_sw (by decide) (by decide) rfl (by decide) (law_c7 hX hL h6 hJ kk)
      | 8, _ => exact g_tableIn (x := nI 8) (off := 503) (tgt := 536) d_sw (by decide) (by decide) rfl (by decide) (law_c8 hX hL h6 hJ kk)
      | 9, _ => exact g_tableIn (x := nI 9) (off := 536) (tgt := 569) d_sw (by decide) (by decide) rfl (by decide) (law_c9 hX hL h6 hJ kk)
      | 10, _ => exact g_tableIn (x := nI 10) (off := 569) (tgt := 602) d_sw (by decide) (by decide) rfl (by decide) (law_c10 hX hL h6 hJ kk)
      | 11, _ => exact g_tableIn (x := nI 11) (off := 602) (tgt := 635) d_sw (by decide) (by decide) rfl (by decide) (law_c11 hX hL h6 hJ kk)
      | 12, _ => exact g_tableIn (x := nI 12) (off := 635) (tgt := 668) d_sw (by decide) (by decide) rfl (by decide) (law_c12 hX hL h6 hJ kk)
      | 13, _ => exact g_tableIn (x := nI 13) (off := 668) (tgt := 701) d_sw (by decide) (by decide) rfl (by decide) (law_c13 hX hL h6 hJ kk)
      | 14, _ => exact g_tableIn (x := nI 14) (off := 691) (tgt := 724) d_sw (by decide) (by decide) rfl (by decide) (law_c14 hX hL h6 hJ kk)
      | 15, _ => exact g_tableIn (x := nI 15) (off := 714) (tgt := 747) d_sw (by decide) (by decide) rfl (by decide) (law_c15 hX hL h6 hJ kk)
      | 16, _ => exact g_tableIn (x := nI 16) (off := 727) (tgt := 760) d_sw (by decide) (by decide) rfl (by decide) (law_c16 hX hL h6 hJ kk)
      | 17, _ => exact g_tableIn (x := nI 17) (off := 750) (tgt := 783) d_sw (by decide) (by decide) rfl (by decide) (law_c17 hX hL h6 hJ kk)
      | 18, _ => exact g_tableIn (x := nI 18) (off := 773) (tgt := 806) d_sw (by decide) (by decide) rfl (by decide) (law_c18 hX hL h6 hJ kk)
      | 19, _ => exact g_tableIn (x := nI 19) (off := 806) (tgt := 839) d_sw (by decide) (by decide) rfl (by decide) (law_c19 hX hL h6 hJ kk)
      | 20, _ => exact g_tableIn (x := nI 20) (off := 829) (tgt := 862) d_sw (by decide) (by decide) rfl (by decide) (law_c20 hX hL h6 hJ kk)
      | 21, _ => exact g_tableIn (x := nI 21) (off := 842) (tgt := 875) d_sw (by decide) (by decide) rfl (by decide) (law_c21 hX hL h6 hJ kk)
      | 22, _ => exact g_tableIn (x := nI 22) (off := 865) (tgt := 898) d_sw (by decide) (by decide) rfl (by decide) (law_c22 hX hL h6 hJ kk)
      | 23, _ => exact g_tableIn (x := nI 23) (off := 888) (tgt := 921) d_sw (by decide) (by decide) rfl (by decide) (law_c23 hX hL h6 hJ kk)
      | 24, _ => exact g_tableIn (x := nI 24) (off := 911) (tgt := 944) d_sw (by decide) (by decide) rfl (by decide) (law_c24 hX hL h6 hJ kk)
      | 25, _ => exact g_tableIn (x := nI 25) (off := 944) (tgt := 977) d_sw (by decide) (by decide) rfl (by decide) (law_c25 hX hL h6 hJ kk)
      | 26, _ => exact g_tableIn (x := nI 26) (off := 967) (tgt := 1000) d_sw (by decide) (by decide) rfl (by decide) (law_c26 hX hL h6 hJ kk)
      | 27, _ => exact g_tableIn (x := nI 27) (off := 1000) (tgt := 1033) d_sw (by decide) (by decide) rfl (by decide) (law_c27 hX hL h6 hJ kk)
      | 28, _ => exact g_tableIn (x := nI 28) (off := 1023) (tgt := 1056) d_sw (by decide) (by decide) rfl (by decide) (law_c28 hX hL h6 hJ kk)
      | 29, _ => exact g_tableIn (x := nI 29) (off := 1066) (tgt := 1099) d_sw (by decide) (by decide) rfl (by decide) (law_c29 hX hL h6 hJ kk)
      | 30, _ => exact g_tableIn (x := nI 30) (off := 1110) (tgt := 1143) d_sw (by decide) (by decide) rfl (by decide) (law_c30 hX hL h6 hJ kk)
      | 31, _ => exact g_tableIn (x := nI 31) (off := 1144) (tgt := 1177) d_sw (by decide) (by decide) rfl (by decide) (law_c31 hX hL h6 hJ kk)
      | 32, _ => exact g_tableIn (x := nI 32) (off := 1177) (tgt := 1210) d_sw (by decide) (by decide) rfl (by decide) (law_c32 hX hL h6 hJ kk)
      | 33, _ => exact g_tableIn (x := nI 33) (off := 1210) (tgt := 1243) d_sw (by decide) (by decide) rfl (by decide) (law_c33 hX hL h6 hJ kk)
      | 34, _ => exact g_tableIn (x := nI 34) (off := 1253) (tgt := 1286) d_sw (by decide) (by decide) rfl (by decide) (law_c34 hX hL h6 hJ kk)
      | 35, _ => exact g_tableIn (x := nI 35) (off := 1276) (tgt := 1309) d_sw (by decide) (by decide) rfl (by decide) (law_c35 hX hL h6 hJ kk)
      | 36, _ => exact g_tableIn (x := nI 36) (off := 1329) (tgt := 1362) d_sw (by decide) (by decide) rfl (by decide) (law_c36 hX hL h6 hJ kk)
      | 37, _ => exact g_tableIn (x := nI 37) (off := 1372) (tgt := 1405) d_sw (by decide) (by decide) rfl (by decide) (law_c37 hX hL h6 hJ kk)
      | 38, _ => exact g_tableIn (x := nI 38) (off := 1415) (tgt := 1448) d_sw (by decide) (by decide) rfl (by decide) (law_c38 hX hL h6 hJ kk)
      | 39, _ => exact g_tableIn (x := nI 39) (off := 1458) (tgt := 1491) d_sw (by decide) (by decide) rfl (by decide) (law_c39 hX hL h6 hJ kk)
      | 40, _ => exact g_tableIn (x := nI 40) (off := 1501) (tgt := 1534) d_sw (by decide) (by decide) rfl (by decide) (law_c40 hX hL h6 hJ kk)
      | 41, _ => exact g_tableIn (x := nI 41) (off := 1534) (tgt := 1567) d_sw (by decide) (by decide) rfl (by decide) (law_c41 hX hL h6 hJ kk)
      | 42, _ => exact g_tableIn (x := nI 42) (off := 1577) (tgt := 1610) d_sw (by decide) (by decide) rfl (by decide) (law_c42 hX hL h6 hJ kk)
      | 43, _ => exact g_tableIn (x := nI 43) (off := 1600) (tgt := 1633) d_sw (by decide) (by decide) rfl (by decide) (law_c43 hX hL h6 hJ kk)
      | 44, _ => exact g_tableIn (x := nI 44) (off := 1623) (tgt := 1656) d_sw (by decide) (by decide) rfl (by decide) (law_c44 hX hL h6 hJ kk)
      | 45, _ => exact g_tableIn (x := nI 45) (off := 1636) (tgt := 1669) d_sw (by decide) (by decide) rfl (by decide) (law_c45 hX hL h6 hJ kk)
      | j + 46, h => exact absurd h (by omega)
    · exact g_tableOut (tgt := 1682) d_sw (by omega) (by decide) (kk σ hJ)
