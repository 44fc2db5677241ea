/-! THE JUDGEMENT: a method by name, code, locals, answer's type; its machine; G: from here the machine comes to its end -/
abbrev Mt : Type := MethodName × ByteArray × Nat × Option FieldType
abbrev MC : Type := Lay × Mt × Nat
abbrev CX : Type := (Program × Launch × Env × Room) × (State × MethodId × Array Value × List Frame) × (Method × Code × (State → Prop)) × ((Nat → ClassId) × (Nat → Nat → Nat) × ClassId × ClassId) × ((Nat → Nat) × (Nat → Prop) × Nat × Nat)
abbrev tyl (cI cB : ClassId) : List (ClassId × FieldType) := [(cI, .int), (cB, .byte)]
def Ok (Γ : MC) (X : CX) : Prop := match X with
  | ((p, _, _, R), (s, m, args, _), (_, c, _), (dC, dI, cI, cB), (ad, A, cells, slots)) =>
    p.tables.exec = Jvm.exec ∧ c.code = Γ.2.1.2.1 ∧ c.maxLocals = Γ.2.1.2.2.1 ∧ s.vm.findClass Γ.2.1.1.cls = some m.cls ∧ (∀ w ∈ tb, w.before args s = true) ∧ va_K (dC, dI) classes (tyl cI cB) s ∧ Ap Γ.1 ad ∧ (∀ k, k < Γ.1.length → A (ad k)) ∧ RO ad A s ∧ Γ.2.2 ≤ R.frames ∧ 40 * Γ.2.2 ≤ R.locals ∧ cells ≤ R.cells ∧ slots ≤ R.slots
def G (Γ : MC) (X : CX) (σ : Store) (L : List (Option Value)) (st : List Value) (pc : Nat) : Prop := match X with
  | ((p, l, e, R), (s, m, args, below), (meth, c, Q), (dC, dI, cI, cB), (ad, A, cells, slots)) =>
    Ok Γ X → ∀ (H : Heap) (locs : List Loc) (ls : Array Slot), va_P (dC, dI) classes (wr cI cB ad σ 0 Γ.1) H → va_S A s.heap H locs → lh ls Γ.2.1.2.2.1 ad L →
      W p l e R s m args below meth c H locs cells slots Q (F0 m pc ls (st.map (cv ad)))
section GL
variable {Γ : MC} {X : CX} {σ : Store} {L L' : List (Option Value)} {st : List Value} {pc : Nat}
theorem g_sub (hs : leL L' L) (k : G Γ X σ L' st pc) : G Γ X σ L st pc := by
  obtain ⟨⟨p, l, e, R⟩, ⟨s, m, args, below⟩, ⟨meth, c, Q⟩, ⟨dC, dI, cI, cB⟩, ⟨ad, A, cells, slots⟩⟩ := X
  intro ok H locs ls hP hS hl
  exact k ok H locs ls hP hS (lh_sub hl hs)
theorem g_eq {σ' : Store} {st' : List Value} (h1 : σ = σ') (h2 : L = L') (h3 : st = st') (k : G Γ X σ' L' st' pc) : G Γ X σ L st pc := by
  subst h1; subst h2; subst h3; exact k
theorem g_iconst {n : Int} {v : Int32} (hd : decode Γ.2.1.2.1 pc = .ok (.iconst n, 1)) (hv : Int32.ofInt n = v) (k : G Γ X σ L (.int v :: st) (pc + 1)) : G Γ X σ L (st) pc := by
  obtain ⟨⟨p, l, e, R⟩, ⟨s, m, args, below⟩, ⟨meth, c, Q⟩, ⟨dC, dI, cI, cB⟩, ⟨ad, A, cells, slots⟩⟩ := X
  intro ok H locs ls hP hS hl
  have hk := k ok H locs ls hP hS hl
  obtain ⟨hx, hb, -⟩ := ok
  exact lv_iconst hx hb hd hv hk
theorem g_bipush {n : Int} {v : Int32} (hd : decode Γ.2.1.2.1 pc = .ok (.bipush n, 2)) (hv : (Int8.ofInt n).toInt32 = v) (k : G Γ X σ L (.int v :: st) (pc + 2)) : G Γ X σ L (st) pc := by
  obtain ⟨⟨p, l, e, R⟩, ⟨s, m, args, below⟩, ⟨meth, c, Q⟩, ⟨dC, dI, cI, cB⟩, ⟨ad, A, cells, slots⟩⟩ := X
  intro ok H locs ls hP hS hl
  have hk := k ok H locs ls hP hS hl
  obtain ⟨hx, hb, -⟩ := ok
  exact lv_bipush hx hb hd hv hk
theorem g_sipush {n : Int} {v : Int32} (hd : decode Γ.2.1.2.1 pc = .ok (.sipush n, 3)) (hv : (Int16.ofInt n).toInt32 = v) (k : G Γ X σ L (.int v :: st) (pc + 3)) : G Γ X σ L (st) pc := by
  obtain ⟨⟨p, l, e, R⟩, ⟨s, m, args, below⟩, ⟨meth, c, Q⟩, ⟨dC, dI, cI, cB⟩, ⟨ad, A, cells, slots⟩⟩ := X
  intro ok H locs ls hP hS hl
  have hk := k ok H locs ls hP hS hl
  obtain ⟨hx, hb, -⟩ := ok
  exact lv_sipush hx hb hd hv hk
theorem g_lconst {n : Fin 2} {v : Int64} (hd : decode Γ.2.1.2.1 pc = .ok (.lconst n, 1)) (hv : Int64.ofNat (n : Nat) = v) (k : G Γ X σ L (.long v :: st) (pc + 1)) : G Γ X σ L (st) pc := by
  obtain ⟨⟨p, l, e, R⟩, ⟨s, m, args, below⟩, ⟨meth, c, Q⟩, ⟨dC, dI, cI, cB⟩, ⟨ad, A, cells, slots⟩⟩ := X
  intro ok H locs ls hP hS hl
  have hk := k ok H locs ls hP hS hl
  obtain ⟨hx, hb, -⟩ := ok
  exact lv_lconst hx hb hd hv hk
theorem g_iload_n {i : Fin 4} {v : Int32} (hd : decode Γ.2.1.2.1 pc = .ok (.iload_n i, 1)) (h : L[(i : Nat)]? = some (some (.int v))) (k : G Γ X σ L (.int v :: st) (pc + 1)) : G Γ X σ L (st) pc := by
  obtain ⟨⟨p, l, e, R⟩, ⟨s, m, args, below⟩, ⟨meth, c, Q⟩, ⟨dC, dI, cI, cB⟩, ⟨ad, A, cells, slots⟩⟩ := X
  intro ok H locs ls hP hS hl
  have hk := k ok H locs ls hP hS hl
  obtain ⟨hx, hb, -⟩ := ok
  exact lv_iload_n hx hb hd rfl (lh_at hl h) hk
theorem g_iload {i : Nat} {v : Int32} (hd : decode Γ.2.1.2.1 pc = .ok (.iload i, 2)) (h : L[i]? = some (some (.int v))) (k : G Γ X σ L (.int v :: st) (pc + 2)) : G Γ X σ L (st) pc := by
  obtain ⟨⟨p, l, e, R⟩, ⟨s, m, args, below⟩, ⟨meth, c, Q⟩, ⟨dC, dI, cI, cB⟩, ⟨ad, A, cells, slots⟩⟩ := X
  intro ok H locs ls hP hS hl
  have hk := k ok H locs ls hP hS hl
  obtain ⟨hx, hb, -⟩ := ok
  exact lv_iload hx hb hd (lh_at hl h) hk
theorem g_lload_n {i : Fin 4} {v : Int64} (hd : decode Γ.2.1.2.1 pc = .ok (.lload_n i, 1)) (h : L[(i : Nat)]? = some (some (.long v))) (k : G Γ X σ L (.long v :: st) (pc + 1)) : G Γ X σ L (st) pc := by
  obtain ⟨⟨p, l, e, R⟩, ⟨s, m, args, below⟩, ⟨meth, c, Q⟩, ⟨dC, dI, cI, cB⟩, ⟨ad, A, cells, slots⟩⟩ := X
  intro ok H locs ls hP hS hl
  have hk := k ok H locs ls hP hS hl
  obtain ⟨hx, hb, -⟩ := ok
  exact lv_lload_n hx hb hd rfl (lh_at hl h) hk
theorem g_lload {i : Nat} {v : Int64} (hd : decode Γ.2.1.2.1 pc = .ok (.lload i, 2)) (h : L[i]? = some (some (.long v))) (k : G Γ X σ L (.long v :: st) (pc + 2)) : G Γ X σ L (st) pc := by
  obtain ⟨⟨p, l, e, R⟩, ⟨s, m, args, below⟩, ⟨meth, c, Q⟩, ⟨dC, dI, cI, cB⟩, ⟨ad, A, cells, slots⟩⟩ := X
  intro ok H locs ls hP hS hl
  have hk := k ok H locs ls hP hS hl
  obtain ⟨hx, hb, -⟩ := ok
  exact lv_lload hx hb hd (lh_at hl h) hk
theorem g_aload_n {i : Fin 4} {v : Nat} (hd : decode Γ.2.1.2.1 pc = .ok (.aload_n i, 1)) (h : L[(i : Nat)]? = some (some (.ref v))) (k : G Γ X σ L (.ref v :: st) (pc + 1)) : G Γ X σ L (st) pc := by
  obtain ⟨⟨p, l, e, R⟩, ⟨s, m, args, below⟩, ⟨meth, c, Q⟩, ⟨dC, dI, cI, cB⟩, ⟨ad, A, cells, slots⟩⟩ := X
  intro ok H locs ls hP hS hl
  have hk := k ok H locs ls hP hS hl
  obtain ⟨hx, hb, -⟩ := ok
  exact lv_aload_n hx hb hd rfl (lh_at hl h) hk
theorem g_aload {i : Nat} {v : Nat} (hd : decode Γ.2.1.2.1 pc = .ok (.aload i, 2)) (h : L[i]? = some (some (.ref v))) (k : G Γ X σ L (.ref v :: st) (pc + 2)) : G Γ X σ L (st) pc := by
  obtain ⟨⟨p, l, e, R⟩, ⟨s, m, args, below⟩, ⟨meth, c, Q⟩, ⟨dC, dI, cI, cB⟩, ⟨ad, A, cells, slots⟩⟩ := X
  intro ok H locs ls hP hS hl
  have hk := k ok H locs ls hP hS hl
  obtain ⟨hx, hb, -⟩ := ok
  exact lv_aload hx hb hd (lh_at hl h) hk
theorem g_iadd {x y : Int32} (hd : decode Γ.2.1.2.1 pc = .ok (.iadd, 1)) (k : G Γ X σ L (.int (x + y) :: st) (pc + 1)) : G Γ X σ L (.int y :: .int x :: st) pc := by
  obtain ⟨⟨p, l, e, R⟩, ⟨s, m, args, below⟩, ⟨meth, c, Q⟩, ⟨dC, dI, cI, cB⟩, ⟨ad, A, cells, slots⟩⟩ := X
  intro ok H locs ls hP hS hl
  have hk := k ok H locs ls hP hS hl
  obtain ⟨hx, hb, -⟩ := ok
  exact lv_iadd hx hb hd hk
theorem g_isub {x y : Int32} (hd : decode Γ.2.1.2.1 pc = .ok (.isub, 1)) (k : G Γ X σ L (.int (x - y) :: st) (pc + 1)) : G Γ X σ L (.int y :: .int x :: st) pc := by
  obtain ⟨⟨p, l, e, R⟩, ⟨s, m, args, below⟩, ⟨meth, c, Q⟩, ⟨dC, dI, cI, cB⟩, ⟨ad, A, cells, slots⟩⟩ := X
  intro ok H locs ls hP hS hl
  have hk := k ok H locs ls hP hS hl
  obtain ⟨hx, hb, -⟩ := ok
  exact lv_isub hx hb hd hk
theorem g_imul {x y : Int32} (hd : decode Γ.2.1.2.1 pc = .ok (.imul, 1)) (k : G Γ X σ L (.int (x * y) :: st) (pc + 1)) : G Γ X σ L (.int y :: .int x :: st) pc := by
  obtain ⟨⟨p, l, e, R⟩, ⟨s, m, args, below⟩, ⟨meth, c, Q⟩, ⟨dC, dI, cI, cB⟩, ⟨ad, A, cells, slots⟩⟩ := X
  intro ok H locs ls hP hS hl
  have hk := k ok H locs ls hP hS hl
  obtain ⟨hx, hb, -⟩ := ok
  exact lv_imul hx hb hd hk
theorem g_iand {x y : Int32} (hd : decode Γ.2.1.2.1 pc = .ok (.iand, 1)) (k : G Γ X σ L (.int (x &&& y) :: st) (pc + 1)) : G Γ X σ L (.int y :: .int x :: st) pc := by
  obtain ⟨⟨p, l, e, R⟩, ⟨s, m, args, below⟩, ⟨meth, c, Q⟩, ⟨dC, dI, cI, cB⟩, ⟨ad, A, cells, slots⟩⟩ := X
  intro ok H locs ls hP hS hl
  have hk := k ok H locs ls hP hS hl
  obtain ⟨hx, hb, -⟩ := ok
  exact lv_iand hx hb hd hk
theorem g_ior {x y : Int32} (hd : decode Γ.2.1.2.1 pc = .ok (.ior, 1)) (k : G Γ X σ L (.int (x ||| y) :: st) (pc + 1)) : G Γ X σ L (.int y :: .int x :: st) pc := by
  obtain ⟨⟨p, l, e, R⟩, ⟨s, m, args, below⟩, ⟨meth, c, Q⟩, ⟨dC, dI, cI, cB⟩, ⟨ad, A, cells, slots⟩⟩ := X
  intro ok H locs ls hP hS hl
  have hk := k ok H locs ls hP hS hl
  obtain ⟨hx, hb, -⟩ := ok
  exact lv_ior hx hb hd hk
theorem g_ixor {x y : Int32} (hd : decode Γ.2.1.2.1 pc = .ok (.ixor, 1)) (k : G Γ X σ L (.int (x ^^^ y) :: st) (pc + 1)) : G Γ X σ L (.int y :: .int x :: st) pc := by
  obtain ⟨⟨p, l, e, R⟩, ⟨s, m, args, below⟩, ⟨meth, c, Q⟩, ⟨dC, dI, cI, cB⟩, ⟨ad, A, cells, slots⟩⟩ := X
  intro ok H locs ls hP hS hl
  have hk := k ok H locs ls hP hS hl
  obtain ⟨hx, hb, -⟩ := ok
  exact lv_ixor hx hb hd hk
theorem g_idiv {x y : Int32} (hd : decode Γ.2.1.2.1 pc = .ok (.idiv, 1)) (hne : ¬ y = 0) (k : G Γ X σ L (.int (x / y) :: st) (pc + 1)) : G Γ X σ L (.int y :: .int x :: st) pc := by
  obtain ⟨⟨p, l, e, R⟩, ⟨s, m, args, below⟩, ⟨meth, c, Q⟩, ⟨dC, dI, cI, cB⟩, ⟨ad, A, cells, slots⟩⟩ := X
  intro ok H locs ls hP hS hl
  have hk := k ok H locs ls hP hS hl
  obtain ⟨hx, hb, -⟩ := ok
  exact lv_idiv hx hb hd hne hk
theorem g_irem {x y : Int32} (hd : decode Γ.2.1.2.1 pc = .ok (.irem, 1)) (hne : ¬ y = 0) (k : G Γ X σ L (.int (x - x / y * y) :: st) (pc + 1)) : G Γ X σ L (.int y :: .int x :: st) pc := by
  obtain ⟨⟨p, l, e, R⟩, ⟨s, m, args, below⟩, ⟨meth, c, Q⟩, ⟨dC, dI, cI, cB⟩, ⟨ad, A, cells, slots⟩⟩ := X
  intro ok H locs ls hP hS hl
  have hk := k ok H locs ls hP hS hl
  obtain ⟨hx, hb, -⟩ := ok
  exact lv_irem hx hb hd hne hk
theorem g_ladd {x y : Int64} (hd : decode Γ.2.1.2.1 pc = .ok (.ladd, 1)) (k : G Γ X σ L (.long (x + y) :: st) (pc + 1)) : G Γ X σ L (.long y :: .long x :: st) pc := by
  obtain ⟨⟨p, l, e, R⟩, ⟨s, m, args, below⟩, ⟨meth, c, Q⟩, ⟨dC, dI, cI, cB⟩, ⟨ad, A, cells, slots⟩⟩ := X
  intro ok H locs ls hP hS hl
  have hk := k ok H locs ls hP hS hl
  obtain ⟨hx, hb, -⟩ := ok
  exact lv_ladd hx hb hd hk
theorem g_lsub {x y : Int64} (hd : decode Γ.2.1.2.1 pc = .ok (.lsub, 1)) (k : G Γ X σ L (.long (x - y) :: st) (pc + 1)) : G Γ X σ L (.long y :: .long x :: st) pc := by
  obtain ⟨⟨p, l, e, R⟩, ⟨s, m, args, below⟩, ⟨meth, c, Q⟩, ⟨dC, dI, cI, cB⟩, ⟨ad, A, cells, slots⟩⟩ := X
  intro ok H locs ls hP hS hl
  have hk := k ok H locs ls hP hS hl
  obtain ⟨hx, hb, -⟩ := ok
  exact lv_lsub hx hb hd hk
theorem g_lmul {x y : Int64} (hd : decode Γ.2.1.2.1 pc = .ok (.lmul, 1)) (k : G Γ X σ L (.long (x * y) :: st) (pc + 1)) : G Γ X σ L (.long y :: .long x :: st) pc := by
  obtain ⟨⟨p, l, e, R⟩, ⟨s, m, args, below⟩, ⟨meth, c, Q⟩, ⟨dC, dI, cI, cB⟩, ⟨ad, A, cells, slots⟩⟩ := X
  intro ok H locs ls hP hS hl
  have hk := k ok H locs ls hP hS hl
  obtain ⟨hx, hb, -⟩ := ok
  exact lv_lmul hx hb hd hk
theorem g_land {x y : Int64} (hd : decode Γ.2.1.2.1 pc = .ok (.land, 1)) (k : G Γ X σ L (.long (x &&& y) :: st) (pc + 1)) : G Γ X σ L (.long y :: .long x :: st) pc := by
  obtain ⟨⟨p, l, e, R⟩, ⟨s, m, args, below⟩, ⟨meth, c, Q⟩, ⟨dC, dI, cI, cB⟩, ⟨ad, A, cells, slots⟩⟩ := X
  intro ok H locs ls hP hS hl
  have hk := k ok H locs ls hP hS hl
  obtain ⟨hx, hb, -⟩ := ok
  exact lv_land hx hb hd hk
theorem g_lor {x y : Int64} (hd : decode Γ.2.1.2.1 pc = .ok (.lor, 1)) (k : G Γ X σ L (.long (x ||| y) :: st) (pc + 1)) : G Γ X σ L (.long y :: .long x :: st) pc := by
  obtain ⟨⟨p, l, e, R⟩, ⟨s, m, args, below⟩, ⟨meth, c, Q⟩, ⟨dC, dI, cI, cB⟩, ⟨ad, A, cells, slots⟩⟩ := X
  intro ok H locs ls hP hS hl
  have hk := k ok H locs ls hP hS hl
  obtain ⟨hx, hb, -⟩ := ok
  exact lv_lor hx hb hd hk
theorem g_lxor {x y : Int64} (hd : decode Γ.2.1.2.1 pc = .ok (.lxor, 1)) (k : G Γ X σ L (.long (x ^^^ y) :: st) (pc + 1)) : G Γ X σ L (.long y :: .long x :: st) pc := by
  obtain ⟨⟨p, l, e, R⟩, ⟨s, m, args, below⟩, ⟨meth, c, Q⟩, ⟨dC, dI, cI, cB⟩, ⟨ad, A, cells, slots⟩⟩ := X
  intro ok H locs ls hP hS hl
  have hk := k ok H locs ls hP hS hl
  obtain ⟨hx, hb, -⟩ := ok
  exact lv_lxor hx hb hd hk
theorem g_ldiv {x y : Int64} (hd : decode Γ.2.1.2.1 pc = .ok (.ldiv, 1)) (hne : ¬ y = 0) (k : G Γ X σ L (.long (x / y) :: st) (pc + 1)) : G Γ X σ L (.long y :: .long x :: st) pc := by
  obtain ⟨⟨p, l, e, R⟩, ⟨s, m, args, below⟩, ⟨meth, c, Q⟩, ⟨dC, dI, cI, cB⟩, ⟨ad, A, cells, slots⟩⟩ := X
  intro ok H locs ls hP hS hl
  have hk := k ok H locs ls hP hS hl
  obtain ⟨hx, hb, -⟩ := ok
  exact lv_ldiv hx hb hd hne hk
theorem g_lrem {x y : Int64} (hd : decode Γ.2.1.2.1 pc = .ok (.lrem, 1)) (hne : ¬ y = 0) (k : G Γ X σ L (.long (x - x / y * y) :: st) (pc + 1)) : G Γ X σ L (.long y :: .long x :: st) pc := by
  obtain ⟨⟨p, l, e, R⟩, ⟨s, m, args, below⟩, ⟨meth, c, Q⟩, ⟨dC, dI, cI, cB⟩, ⟨ad, A, cells, slots⟩⟩ := X
  intro ok H locs ls hP hS hl
  have hk := k ok H locs ls hP hS hl
  obtain ⟨hx, hb, -⟩ := ok
  exact lv_lrem hx hb hd hne hk
theorem g_ineg {x : Int32} (hd : decode Γ.2.1.2.1 pc = .ok (.ineg, 1)) (k : G Γ X σ L (.int (-x) :: st) (pc + 1)) : G Γ X σ L (.int x :: st) pc := by
  obtain ⟨⟨p, l, e, R⟩, ⟨s, m, args, below⟩, ⟨meth, c, Q⟩, ⟨dC, dI, cI, cB⟩, ⟨ad, A, cells, slots⟩⟩ := X
  intro ok H locs ls hP hS hl
  have hk := k ok H locs ls hP hS hl
  obtain ⟨hx, hb, -⟩ := ok
  exact lv_ineg hx hb hd hk
theorem g_ishl {x y : Int32} (hd : decode Γ.2.1.2.1 pc = .ok (.ishl, 1)) (k : G Γ X σ L (.int (x <<< (y &&& 31)) :: st) (pc + 1)) : G Γ X σ L (.int y :: .int x :: st) pc := by
  obtain ⟨⟨p, l, e, R⟩, ⟨s, m, args, below⟩, ⟨meth, c, Q⟩, ⟨dC, dI, cI, cB⟩, ⟨ad, A, cells, slots⟩⟩ := X
  intro ok H locs ls hP hS hl
  have hk := k ok H locs ls hP hS hl
  obtain ⟨hx, hb, -⟩ := ok
  exact lv_ishl hx hb hd hk
theorem g_ishr {x y : Int32} (hd : decode Γ.2.1.2.1 pc = .ok (.ishr, 1)) (k : G Γ X σ L (.int (x >>> (y &&& 31)) :: st) (pc + 1)) : G Γ X σ L (.int y :: .int x :: st) pc := by
  obtain ⟨⟨p, l, e, R⟩, ⟨s, m, args, below⟩, ⟨meth, c, Q⟩, ⟨dC, dI, cI, cB⟩, ⟨ad, A, cells, slots⟩⟩ := X
  intro ok H locs ls hP hS hl
  have hk := k ok H locs ls hP hS hl
  obtain ⟨hx, hb, -⟩ := ok
  exact lv_ishr hx hb hd hk
theorem g_iushr {x y : Int32} (hd : decode Γ.2.1.2.1 pc = .ok (.iushr, 1)) (k : G Γ X σ L (.int (x.toUInt32 >>> (y.toUInt32 &&& Int32.toUInt32 31)).toInt32 :: st) (pc + 1)) : G Γ X σ L (.int y :: .int x :: st) pc := by
  obtain ⟨⟨p, l, e, R⟩, ⟨s, m, args, below⟩, ⟨meth, c, Q⟩, ⟨dC, dI, cI, cB⟩, ⟨ad, A, cells, slots⟩⟩ := X
  intro ok H locs ls hP hS hl
  have hk := k ok H locs ls hP hS hl
  obtain ⟨hx, hb, -⟩ := ok
  exact lv_iushr hx hb hd rfl hk
theorem g_lushr {x : Int64} {y : Int32} (hd : decode Γ.2.1.2.1 pc = .ok (.lushr, 1)) (k : G Γ X σ L (.long (x.toUInt64 >>> (y.toInt64.toUInt64 &&& Int64.toUInt64 63)).toInt64 :: st) (pc + 1)) : G Γ X σ L (.int y :: .long x :: st) pc := by
  obtain ⟨⟨p, l, e, R⟩, ⟨s, m, args, below⟩, ⟨meth, c, Q⟩, ⟨dC, dI, cI, cB⟩, ⟨ad, A, cells, slots⟩⟩ := X
  intro ok H locs ls hP hS hl
  have hk := k ok H locs ls hP hS hl
  obtain ⟨hx, hb, -⟩ := ok
  exact lv_lushr hx hb hd rfl hk
theorem g_lshl {x : Int64} {y : Int32} (hd : decode Γ.2.1.2.1 pc = .ok (.lshl, 1)) (k : G Γ X σ L (.long (x <<< (y.toInt64 &&& 63)) :: st) (pc + 1)) : G Γ X σ L (.int y :: .long x :: st) pc := by
  obtain ⟨⟨p, l, e, R⟩, ⟨s, m, args, below⟩, ⟨meth, c, Q⟩, ⟨dC, dI, cI, cB⟩, ⟨ad, A, cells, slots⟩⟩ := X
  intro ok H locs ls hP hS hl
  have hk := k ok H locs ls hP hS hl
  obtain ⟨hx, hb, -⟩ := ok
  exact lv_lshl hx hb hd rfl hk
theorem g_lshr {x : Int64} {y : Int32} (hd : decode Γ.2.1.2.1 pc = .ok (.lshr, 1)) (k : G Γ X σ L (.long (x >>> (y.toInt64 &&& 63)) :: st) (pc + 1)) : G Γ X σ L (.int y :: .long x :: st) pc := by
  obtain ⟨⟨p, l, e, R⟩, ⟨s, m, args, below⟩, ⟨meth, c, Q⟩, ⟨dC, dI, cI, cB⟩, ⟨ad, A, cells, slots⟩⟩ := X
  intro ok H locs ls hP hS hl
  have hk := k ok H locs ls hP hS hl
  obtain ⟨hx, hb, -⟩ := ok
  exact lv_lshr hx hb hd rfl hk
theorem g_i2l {x : Int32} (hd : decode Γ.2.1.2.1 pc = .ok (.i2l, 1)) (k : G Γ X σ L (.long x.toInt64 :: st) (pc + 1)) : G Γ X σ L (.int x :: st) pc := by
  obtain ⟨⟨p, l, e, R⟩, ⟨s, m, args, below⟩, ⟨meth, c, Q⟩, ⟨dC, dI, cI, cB⟩, ⟨ad, A, cells, slots⟩⟩ := X
  intro ok H locs ls hP hS hl
  have hk := k ok H locs ls hP hS hl
  obtain ⟨hx, hb, -⟩ := ok
  exact lv_i2l hx hb hd rfl hk
theorem g_l2i {x : Int64} (hd : decode Γ.2.1.2.1 pc = .ok (.l2i, 1)) (k : G Γ X σ L (.int x.toInt32 :: st) (pc + 1)) : G Γ X σ L (.long x :: st) pc := by
  obtain ⟨⟨p, l, e, R⟩, ⟨s, m, args, below⟩, ⟨meth, c, Q⟩, ⟨dC, dI, cI, cB⟩, ⟨ad, A, cells, slots⟩⟩ := X
  intro ok H locs ls hP hS hl
  have hk := k ok H locs ls hP hS hl
  obtain ⟨hx, hb, -⟩ := ok
  exact lv_l2i hx hb hd rfl hk
theorem g_i2b {x : Int32} (hd : decode Γ.2.1.2.1 pc = .ok (.i2b, 1)) (k : G Γ X σ L (.int x.toInt8.toInt32 :: st) (pc + 1)) : G Γ X σ L (.int x :: st) pc := by
  obtain ⟨⟨p, l, e, R⟩, ⟨s, m, args, below⟩, ⟨meth, c, Q⟩, ⟨dC, dI, cI, cB⟩, ⟨ad, A, cells, slots⟩⟩ := X
  intro ok H locs ls hP hS hl
  have hk := k ok H locs ls hP hS hl
  obtain ⟨hx, hb, -⟩ := ok
  exact lv_i2b hx hb hd rfl hk
theorem g_i2s {x : Int32} (hd : decode Γ.2.1.2.1 pc = .ok (.i2s, 1)) (k : G Γ X σ L (.int x.toInt16.toInt32 :: st) (pc + 1)) : G Γ X σ L (.int x :: st) pc := by
  obtain ⟨⟨p, l, e, R⟩, ⟨s, m, args, below⟩, ⟨meth, c, Q⟩, ⟨dC, dI, cI, cB⟩, ⟨ad, A, cells, slots⟩⟩ := X
  intro ok H locs ls hP hS hl
  have hk := k ok H locs ls hP hS hl
  obtain ⟨hx, hb, -⟩ := ok
  exact lv_i2s hx hb hd rfl hk
theorem g_i2c {x : Int32} (hd : decode Γ.2.1.2.1 pc = .ok (.i2c, 1)) (k : G Γ X σ L (.int (x.toUInt32 % 65536).toInt32 :: st) (pc + 1)) : G Γ X σ L (.int x :: st) pc := by
  obtain ⟨⟨p, l, e, R⟩, ⟨s, m, args, below⟩, ⟨meth, c, Q⟩, ⟨dC, dI, cI, cB⟩, ⟨ad, A, cells, slots⟩⟩ := X
  intro ok H locs ls hP hS hl
  have hk := k ok H locs ls hP hS hl
  obtain ⟨hx, hb, -⟩ := ok
  exact lv_i2c hx hb hd rfl hk
theorem g_lcmp {x y : Int64} (hd : decode Γ.2.1.2.1 pc = .ok (.lcmp, 1)) (k : G Γ X σ L (.int (lg_cmp x y) :: st) (pc + 1)) : G Γ X σ L (.long y :: .long x :: st) pc := by
  obtain ⟨⟨p, l, e, R⟩, ⟨s, m, args, below⟩, ⟨meth, c, Q⟩, ⟨dC, dI, cI, cB⟩, ⟨ad, A, cells, slots⟩⟩ := X
  intro ok H locs ls hP hS hl
  have hk := k ok H locs ls hP hS hl
  obtain ⟨hx, hb, -⟩ := ok
  exact W.lcmp hx hb hd hk
theorem g_dup {v : Value} (hd : decode Γ.2.1.2.1 pc = .ok (.dup, 1)) (hc : v.category = 1) (k : G Γ X σ L (v :: v :: st) (pc + 1)) : G Γ X σ L (v :: st) pc := by
  obtain ⟨⟨p, l, e, R⟩, ⟨s, m, args, below⟩, ⟨meth, c, Q⟩, ⟨dC, dI, cI, cB⟩, ⟨ad, A, cells, slots⟩⟩ := X
  intro ok H locs ls hP hS hl
  have hk := k ok H locs ls hP hS hl
  obtain ⟨hx, hb, -⟩ := ok
  exact lv_dup hx hb hd (by rw [cv_cat]; exact hc) hk
theorem g_pop {v : Value} (hd : decode Γ.2.1.2.1 pc = .ok (.pop, 1)) (hc : v.category = 1) (k : G Γ X σ L (st) (pc + 1)) : G Γ X σ L (v :: st) pc := by
  obtain ⟨⟨p, l, e, R⟩, ⟨s, m, args, below⟩, ⟨meth, c, Q⟩, ⟨dC, dI, cI, cB⟩, ⟨ad, A, cells, slots⟩⟩ := X
  intro ok H locs ls hP hS hl
  have hk := k ok H locs ls hP hS hl
  obtain ⟨hx, hb, -⟩ := ok
  exact lv_pop hx hb hd (by rw [cv_cat]; exact hc) hk
theorem g_dup_x1 {v w : Value} (hd : decode Γ.2.1.2.1 pc = .ok (.dup_x1, 1)) (hc : v.category = 1) (hc2 : w.category = 1) (k : G Γ X σ L (v :: w :: v :: st) (pc + 1)) : G Γ X σ L (v :: w :: st) pc := by
  obtain ⟨⟨p, l, e, R⟩, ⟨s, m, args, below⟩, ⟨meth, c, Q⟩, ⟨dC, dI, cI, cB⟩, ⟨ad, A, cells, slots⟩⟩ := X
  intro ok H locs ls hP hS hl
  have hk := k ok H locs ls hP hS hl
  obtain ⟨hx, hb, -⟩ := ok
  exact lv_dup_x1 hx hb hd (by rw [cv_cat]; exact hc) (by rw [cv_cat]; exact hc2) hk
theorem g_dup2 {v w : Value} (hd : decode Γ.2.1.2.1 pc = .ok (.dup2, 1)) (hc : v.category = 1) (hc2 : w.category = 1) (k : G Γ X σ L (v :: w :: v :: w :: st) (pc + 1)) : G Γ X σ L (v :: w :: st) pc := by
  obtain ⟨⟨p, l, e, R⟩, ⟨s, m, args, below⟩, ⟨meth, c, Q⟩, ⟨dC, dI, cI, cB⟩, ⟨ad, A, cells, slots⟩⟩ := X
  intro ok H locs ls hP hS hl
  have hk := k ok H locs ls hP hS hl
  obtain ⟨hx, hb, -⟩ := ok
  exact lv_dup2_11 hx hb hd (by rw [cv_cat]; exact hc) (by rw [cv_cat]; exact hc2) hk
theorem g_istore_n {i : Fin 4} {v : Int32} (hd : decode Γ.2.1.2.1 pc = .ok (.istore_n i, 1)) (hn : (i : Nat) < Γ.2.1.2.2.1) (hL : st1 L (i : Nat) (.int v) = L') (k : G Γ X σ L' st (pc + 1)) : G Γ X σ L (.int v :: st) pc := by
  obtain ⟨⟨p, l, e, R⟩, ⟨s, m, args, below⟩, ⟨meth, c, Q⟩, ⟨dC, dI, cI, cB⟩, ⟨ad, A, cells, slots⟩⟩ := X
  intro ok H locs ls hP hS hl
  have hk := fun ls hl => k ok H locs ls hP hS hl
  obtain ⟨hx, hb, -⟩ := ok
  exact lv_istore_n hx hb hd rfl (lh_pairs hl) hn rfl (fun ls' hl' => hk ls' (lh_st1 hl' hL))
theorem g_istore {i : Nat} {v : Int32} (hd : decode Γ.2.1.2.1 pc = .ok (.istore i, 2)) (hn : i < Γ.2.1.2.2.1) (hL : st1 L i (.int v) = L') (k : G Γ X σ L' st (pc + 2)) : G Γ X σ L (.int v :: st) pc := by
  obtain ⟨⟨p, l, e, R⟩, ⟨s, m, args, below⟩, ⟨meth, c, Q⟩, ⟨dC, dI, cI, cB⟩, ⟨ad, A, cells, slots⟩⟩ := X
  intro ok H locs ls hP hS hl
  have hk := fun ls hl => k ok H locs ls hP hS hl
  obtain ⟨hx, hb, -⟩ := ok
  exact lv_istore hx hb hd (lh_pairs hl) hn rfl (fun ls' hl' => hk ls' (lh_st1 hl' hL))
theorem g_lstore_n {i : Fin 4} {v : Int64} (hd : decode Γ.2.1.2.1 pc = .ok (.lstore_n i, 1)) (hn : (i : Nat) + 1 < Γ.2.1.2.2.1) (hL : st2 L (i : Nat) (.long v) = L') (k : G Γ X σ L' st (pc + 1)) : G Γ X σ L (.long v :: st) pc := by
  obtain ⟨⟨p, l, e, R⟩, ⟨s, m, args, below⟩, ⟨meth, c, Q⟩, ⟨dC, dI, cI, cB⟩, ⟨ad, A, cells, slots⟩⟩ := X
  intro ok H locs ls hP hS hl
  have hk := fun ls hl => k ok H locs ls hP hS hl
  obtain ⟨hx, hb, -⟩ := ok
  exact lv_lstore_n hx hb hd rfl (lh_pairs hl) hn rfl (fun ls' hl' => hk ls' (lh_st2 hl' hL))
theorem g_lstore {i : Nat} {v : Int64} (hd : decode Γ.2.1.2.1 pc = .ok (.lstore i, 2)) (hn : i + 1 < Γ.2.1.2.2.1) (hL : st2 L i (.long v) = L') (k : G Γ X σ L' st (pc + 2)) : G Γ X σ L (.long v :: st) pc := by
  obtain ⟨⟨p, l, e, R⟩, ⟨s, m, args, below⟩, ⟨meth, c, Q⟩, ⟨dC, dI, cI, cB⟩, ⟨ad, A, cells, slots⟩⟩ := X
  intro ok H locs ls hP hS hl
  have hk := fun ls hl => k ok H locs ls hP hS hl
  obtain ⟨hx, hb, -⟩ := ok
  exact lv_lstore hx hb hd (lh_pairs hl) hn rfl (fun ls' hl' => hk ls' (lh_st2 hl' hL))
theorem g_astore_n {i : Fin 4} {v : Nat} (hd : decode Γ.2.1.2.1 pc = .ok (.astore_n i, 1)) (hn : (i : Nat) < Γ.2.1.2.2.1) (hL : st1 L (i : Nat) (.ref v) = L') (k : G Γ X σ L' st (pc + 1)) : G Γ X σ L (.ref v :: st) pc := by
  obtain ⟨⟨p, l, e, R⟩, ⟨s, m, args, below⟩, ⟨meth, c, Q⟩, ⟨dC, dI, cI, cB⟩, ⟨ad, A, cells, slots⟩⟩ := X
  intro ok H locs ls hP hS hl
  have hk := fun ls hl => k ok H locs ls hP hS hl
  obtain ⟨hx, hb, -⟩ := ok
  exact lv_astore_n hx hb hd rfl (lh_pairs hl) hn rfl (fun ls' hl' => hk ls' (lh_st1 hl' hL))
theorem g_astore {i : Nat} {v : Nat} (hd : decode Γ.2.1.2.1 pc = .ok (.astore i, 2)) (hn : i < Γ.2.1.2.2.1) (hL : st1 L i (.ref v) = L') (k : G Γ X σ L' st (pc + 2)) : G Γ X σ L (.ref v :: st) pc := by
  obtain ⟨⟨p, l, e, R⟩, ⟨s, m, args, below⟩, ⟨meth, c, Q⟩, ⟨dC, dI, cI, cB⟩, ⟨ad, A, cells, slots⟩⟩ := X
  intro ok H locs ls hP hS hl
  have hk := fun ls hl => k ok H locs ls hP hS hl
  obtain ⟨hx, hb, -⟩ := ok
  exact lv_astore hx hb hd (lh_pairs hl) hn rfl (fun ls' hl' => hk ls' (lh_st1 hl' hL))
theorem g_iinc {i : Nat} {n : Int} {x v : Int32} (hd : decode Γ.2.1.2.1 pc = .ok (.iinc i n, 3)) (h : L[i]? = some (some (.int x))) (hv : x + Int32.ofInt n = v) (hn : i < Γ.2.1.2.2.1) (hL : st1 L i (.int v) = L') (k : G Γ X σ L' st (pc + 3)) : G Γ X σ L st pc := by
  obtain ⟨⟨p, l, e, R⟩, ⟨s, m, args, below⟩, ⟨meth, c, Q⟩, ⟨dC, dI, cI, cB⟩, ⟨ad, A, cells, slots⟩⟩ := X
  intro ok H locs ls hP hS hl
  have hk := fun ls hl => k ok H locs ls hP hS hl
  obtain ⟨hx, hb, -⟩ := ok
  obtain ⟨q, hq⟩ := List.getElem?_of_mem ((prs_mem ad L 0 (i, cv ad (.int x))).mpr ⟨i, _, h, by simp⟩)
  exact lv_iinc hx hb hd (lh_pairs hl) hq hv hn rfl (fun ls' hl' => hk ls' (lh_st1 hl' hL))
theorem g_if_eq {x : Int32} {off : Int} {tgt : Nat} (hd : decode Γ.2.1.2.1 pc = .ok (.ifCond .eq off, 3)) (ht : (pc : Int) + off = (tgt : Int)) (kt : x = 0 → G Γ X σ L st tgt) (kf : ¬ x = 0 → G Γ X σ L st (pc + 3)) : G Γ X σ L (.int x :: st) pc := by
  obtain ⟨⟨p, l, e, R⟩, ⟨s, m, args, below⟩, ⟨meth, c, Q⟩, ⟨dC, dI, cI, cB⟩, ⟨ad, A, cells, slots⟩⟩ := X
  intro ok H locs ls hP hS hl
  have h1 := fun h => kt h ok H locs ls hP hS hl
  have h2 := fun h => kf h ok H locs ls hP hS hl
  obtain ⟨hx, hb, -⟩ := ok
  exact lv_if_eq hx hb hd ht h1 h2
theorem g_icmp_eq {x y : Int32} {off : Int} {tgt : Nat} (hd : decode Γ.2.1.2.1 pc = .ok (.if_icmp .eq off, 3)) (ht : (pc : Int) + off = (tgt : Int)) (kt : x = y → G Γ X σ L st tgt) (kf : ¬ x = y → G Γ X σ L st (pc + 3)) : G Γ X σ L (.int y :: .int x :: st) pc := by
  obtain ⟨⟨p, l, e, R⟩, ⟨s, m, args, below⟩, ⟨meth, c, Q⟩, ⟨dC, dI, cI, cB⟩, ⟨ad, A, cells, slots⟩⟩ := X
  intro ok H locs ls hP hS hl
  have h1 := fun h => kt h ok H locs ls hP hS hl
  have h2 := fun h => kf h ok H locs ls hP hS hl
  obtain ⟨hx, hb, -⟩ := ok
  exact lv_icmp_eq hx hb hd ht h1 h2
theorem g_if_ne {x : Int32} {off : Int} {tgt : Nat} (hd : decode Γ.2.1.2.1 pc = .ok (.ifCond .ne off, 3)) (ht : (pc : Int) + off = (tgt : Int)) (kt : ¬ x = 0 → G Γ X σ L st tgt) (kf : x = 0 → G Γ X σ L st (pc + 3)) : G Γ X σ L (.int x :: st) pc := by
  obtain ⟨⟨p, l, e, R⟩, ⟨s, m, args, below⟩, ⟨meth, c, Q⟩, ⟨dC, dI, cI, cB⟩, ⟨ad, A, cells, slots⟩⟩ := X
  intro ok H locs ls hP hS hl
  have h1 := fun h => kt h ok H locs ls hP hS hl
  have h2 := fun h => kf h ok H locs ls hP hS hl
  obtain ⟨hx, hb, -⟩ := ok
  exact lv_if_ne hx hb hd ht h1 h2
theorem g_icmp_ne {x y : Int32} {off : Int} {tgt : Nat} (hd : decode Γ.2.1.2.1 pc = .ok (.if_icmp .ne off, 3)) (ht : (pc : Int) + off = (tgt : Int)) (kt : ¬ x = y → G Γ X σ L st tgt) (kf : x = y → G Γ X σ L st (pc + 3)) : G Γ X σ L (.int y :: .int x :: st) pc := by
  obtain ⟨⟨p, l, e, R⟩, ⟨s, m, args, below⟩, ⟨meth, c, Q⟩, ⟨dC, dI, cI, cB⟩, ⟨ad, A, cells, slots⟩⟩ := X
  intro ok H locs ls hP hS hl
  have h1 := fun h => kt h ok H locs ls hP hS hl
  have h2 := fun h => kf h ok H locs ls hP hS hl
  obtain ⟨hx, hb, -⟩ := ok
  exact lv_icmp_ne hx hb hd ht h1 h2
theorem g_if_lt {x : Int32} {off : Int} {tgt : Nat} (hd : decode Γ.2.1.2.1 pc = .ok (.ifCond .lt off, 3)) (ht : (pc : Int) + off = (tgt : Int)) (kt : x < 0 → G Γ X σ L st tgt) (kf : ¬ x < 0 → G Γ X σ L st (pc + 3)) : G Γ X σ L (.int x :: st) pc := by
  obtain ⟨⟨p, l, e, R⟩, ⟨s, m, args, below⟩, ⟨meth, c, Q⟩, ⟨dC, dI, cI, cB⟩, ⟨ad, A, cells, slots⟩⟩ := X
  intro ok H locs ls hP hS hl
  have h1 := fun h => kt h ok H locs ls hP hS hl
  have h2 := fun h => kf h ok H locs ls hP hS hl
  obtain ⟨hx, hb, -⟩ := ok
  exact lv_if_lt hx hb hd ht h1 h2
theorem g_icmp_lt {x y : Int32} {off : Int} {tgt : Nat} (hd : decode Γ.2.1.2.1 pc = .ok (.if_icmp .lt off, 3)) (ht : (pc : Int) + off = (tgt : Int)) (kt : x < y → G Γ X σ L st tgt) (kf : ¬ x < y → G Γ X σ L st (pc + 3)) : G Γ X σ L (.int y :: .int x :: st) pc := by
  obtain ⟨⟨p, l, e, R⟩, ⟨s, m, args, below⟩, ⟨meth, c, Q⟩, ⟨dC, dI, cI, cB⟩, ⟨ad, A, cells, slots⟩⟩ := X
  intro ok H locs ls hP hS hl
  have h1 := fun h => kt h ok H locs ls hP hS hl
  have h2 := fun h => kf h ok H locs ls hP hS hl
  obtain ⟨hx, hb, -⟩ := ok
  exact lv_icmp_lt hx hb hd ht h1 h2
theorem g_if_ge {x : Int32} {off : Int} {tgt : Nat} (hd : decode Γ.2.1.2.1 pc = .ok (.ifCond .ge off, 3)) (ht : (pc : Int) + off = (tgt : Int)) (kt : 0 ≤ x → G Γ X σ L st tgt) (kf : ¬ 0 ≤ x → G Γ X σ L st (pc + 3)) : G Γ X σ L (.int x :: st) pc := by
  obtain ⟨⟨p, l, e, R⟩, ⟨s, m, args, below⟩, ⟨meth, c, Q⟩, ⟨dC, dI, cI, cB⟩, ⟨ad, A, cells, slots⟩⟩ := X
  intro ok H locs ls hP hS hl
  have h1 := fun h => kt h ok H locs ls hP hS hl
  have h2 := fun h => kf h ok H locs ls hP hS hl
  obtain ⟨hx, hb, -⟩ := ok
  exact lv_if_ge hx hb hd ht h1 h2
theorem g_icmp_ge {x y : Int32} {off : Int} {tgt : Nat} (hd : decode Γ.2.1.2.1 pc = .ok (.if_icmp .ge off, 3)) (ht : (pc : Int) + off = (tgt : Int)) (kt : y ≤ x → G Γ X σ L st tgt) (kf : ¬ y ≤ x → G Γ X σ L st (pc + 3)) : G Γ X σ L (.int y :: .int x :: st) pc := by
  obtain ⟨⟨p, l, e, R⟩, ⟨s, m, args, below⟩, ⟨meth, c, Q⟩, ⟨dC, dI, cI, cB⟩, ⟨ad, A, cells, slots⟩⟩ := X
  intro ok H locs ls hP hS hl
  have h1 := fun h => kt h ok H locs ls hP hS hl
  have h2 := fun h => kf h ok H locs ls hP hS hl
  obtain ⟨hx, hb, -⟩ := ok
  exact lv_icmp_ge hx hb hd ht h1 h2
theorem g_if_gt {x : Int32} {off : Int} {tgt : Nat} (hd : decode Γ.2.1.2.1 pc = .ok (.ifCond .gt off, 3)) (ht : (pc : Int) + off = (tgt : Int)) (kt : 0 < x → G Γ X σ L st tgt) (kf : ¬ 0 < x → G Γ X σ L st (pc + 3)) : G Γ X σ L (.int x :: st) pc := by
  obtain ⟨⟨p, l, e, R⟩, ⟨s, m, args, below⟩, ⟨meth, c, Q⟩, ⟨dC, dI, cI, cB⟩, ⟨ad, A, cells, slots⟩⟩ := X
  intro ok H locs ls hP hS hl
  have h1 := fun h => kt h ok H locs ls hP hS hl
  have h2 := fun h => kf h ok H locs ls hP hS hl
  obtain ⟨hx, hb, -⟩ := ok
  exact lv_if_gt hx hb hd ht h1 h2
theorem g_icmp_gt {x y : Int32} {off : Int} {tgt : Nat} (hd : decode Γ.2.1.2.1 pc = .ok (.if_icmp .gt off, 3)) (ht : (pc : Int) + off = (tgt : Int)) (kt : y < x → G Γ X σ L st tgt) (kf : ¬ y < x → G Γ X σ L st (pc + 3)) : G Γ X σ L (.int y :: .int x :: st) pc := by
  obtain ⟨⟨p, l, e, R⟩, ⟨s, m, args, below⟩, ⟨meth, c, Q⟩, ⟨dC, dI, cI, cB⟩, ⟨ad, A, cells, slots⟩⟩ := X
  intro ok H locs ls hP hS hl
  have h1 := fun h => kt h ok H locs ls hP hS hl
  have h2 := fun h => kf h ok H locs ls hP hS hl
  obtain ⟨hx, hb, -⟩ := ok
  exact lv_icmp_gt hx hb hd ht h1 h2
theorem g_if_le {x : Int32} {off : Int} {tgt : Nat} (hd : decode Γ.2.1.2.1 pc = .ok (.ifCond .le off, 3)) (ht : (pc : Int) + off = (tgt : Int)) (kt : x ≤ 0 → G Γ X σ L st tgt) (kf : ¬ x ≤ 0 → G Γ X σ L st (pc + 3)) : G Γ X σ L (.int x :: st) pc := by
  obtain ⟨⟨p, l, e, R⟩, ⟨s, m, args, below⟩, ⟨meth, c, Q⟩, ⟨dC, dI, cI, cB⟩, ⟨ad, A, cells, slots⟩⟩ := X
  intro ok H locs ls hP hS hl
  have h1 := fun h => kt h ok H locs ls hP hS hl
  have h2 := fun h => kf h ok H locs ls hP hS hl
  obtain ⟨hx, hb, -⟩ := ok
  exact lv_if_le hx hb hd ht h1 h2
theorem g_icmp_le {x y : Int32} {off : Int} {tgt : Nat} (hd : decode Γ.2.1.2.1 pc = .ok (.if_icmp .le off, 3)) (ht : (pc : Int) + off = (tgt : Int)) (kt : x ≤ y → G Γ X σ L st tgt) (kf : ¬ x ≤ y → G Γ X σ L st (pc + 3)) : G Γ X σ L (.int y :: .int x :: st) pc := by
  obtain ⟨⟨p, l, e, R⟩, ⟨s, m, args, below⟩, ⟨meth, c, Q⟩, ⟨dC, dI, cI, cB⟩, ⟨ad, A, cells, slots⟩⟩ := X
  intro ok H locs ls hP hS hl
  have h1 := fun h => kt h ok H locs ls hP hS hl
  have h2 := fun h => kf h ok H locs ls hP hS hl
  obtain ⟨hx, hb, -⟩ := ok
  exact lv_icmp_le hx hb hd ht h1 h2
theorem g_goto {off : Int} {tgt : Nat} (hd : decode Γ.2.1.2.1 pc = .ok (.goto off, 3)) (ht : (pc : Int) + off = (tgt : Int)) (k : G Γ X σ L st tgt) : G Γ X σ L st pc := by
  obtain ⟨⟨p, l, e, R⟩, ⟨s, m, args, below⟩, ⟨meth, c, Q⟩, ⟨dC, dI, cI, cB⟩, ⟨ad, A, cells, slots⟩⟩ := X
  intro ok H locs ls hP hS hl
  have hk := k ok H locs ls hP hS hl
  obtain ⟨hx, hb, -⟩ := ok
  exact lv_goto hx hb hd ht hk
theorem g_tableIn {dflt lo hi : Int} {offs : Array Int} {len : Nat} {x : Int32} {off : Int} {tgt : Nat} (hd : decode Γ.2.1.2.1 pc = .ok (.tableswitch dflt lo hi offs, len)) (h1 : ¬ x.toInt < lo) (h2 : ¬ hi < x.toInt) (ho : offs[(x.toInt - lo).toNat]? = some off) (ht : (pc : Int) + off = (tgt : Int)) (k : G Γ X σ L st tgt) : G Γ X σ L (.int x :: st) pc := by
  obtain ⟨⟨p, l, e, R⟩, ⟨s, m, args, below⟩, ⟨meth, c, Q⟩, ⟨dC, dI, cI, cB⟩, ⟨ad, A, cells, slots⟩⟩ := X
  intro ok H locs ls hP hS hl
  have hk := k ok H locs ls hP hS hl
  obtain ⟨hx, hb, -⟩ := ok
  exact lv_tableIn hx hb hd h1 h2 ho ht hk
theorem g_tableOut {dflt lo hi : Int} {offs : Array Int} {len : Nat} {x : Int32} {tgt : Nat} (hd : decode Γ.2.1.2.1 pc = .ok (.tableswitch dflt lo hi offs, len)) (h : x.toInt < lo ∨ hi < x.toInt) (ht : (pc : Int) + dflt = (tgt : Int)) (k : G Γ X σ L st tgt) : G Γ X σ L (.int x :: st) pc := by
  obtain ⟨⟨p, l, e, R⟩, ⟨s, m, args, below⟩, ⟨meth, c, Q⟩, ⟨dC, dI, cI, cB⟩, ⟨ad, A, cells, slots⟩⟩ := X
  intro ok H locs ls hP hS hl
  have hk := k ok H locs ls hP hS hl
  obtain ⟨hx, hb, -⟩ := ok
  exact lv_tableOut hx hb hd h ht hk
theorem g_lookup {dflt : Int} {ps : Array (Int × Int)} {len : Nat} {x : Int32} {off : Int} {tgt : Nat} (hd : decode Γ.2.1.2.1 pc = .ok (.lookupswitch dflt ps, len)) (hp : (ps.toList.zip (ps.toList.drop 1)).all (fun (a, next) => a.1 < next.1) = true) (ho : Op.lookupswitch.offset ps.toList dflt x.toInt = off) (ht : (pc : Int) + off = (tgt : Int)) (k : G Γ X σ L st tgt) : G Γ X σ L (.int x :: st) pc := by
  obtain ⟨⟨p, l, e, R⟩, ⟨s, m, args, below⟩, ⟨meth, c, Q⟩, ⟨dC, dI, cI, cB⟩, ⟨ad, A, cells, slots⟩⟩ := X
  intro ok H locs ls hP hS hl
  have hk := k ok H locs ls hP hS hl
  obtain ⟨hx, hb, -⟩ := ok
  exact lv_lookup hx hb hd hp ho ht hk
theorem g_ldc {i : Nat} {v : Int32} (hd : decode Γ.2.1.2.1 pc = .ok (.ldc i, 2)) (hc : Cond.constant Γ.2.1.1.cls i v ∈ tb) (k : G Γ X σ L (.int v :: st) (pc + 2)) : G Γ X σ L st pc := by
  obtain ⟨⟨p, l, e, R⟩, ⟨s, m, args, below⟩, ⟨meth, c, Q⟩, ⟨dC, dI, cI, cB⟩, ⟨ad, A, cells, slots⟩⟩ := X
  intro ok H locs ls hP hS hl
  have hk := k ok H locs ls hP hS hl
  obtain ⟨hx, hb, hm, hown, hts, -⟩ := ok
  exact lv_ldc hx hb hown (hts _ hc) hd hk
theorem g_ldcw {i : Nat} {v : Int32} (hd : decode Γ.2.1.2.1 pc = .ok (.ldc_w i, 3)) (hc : Cond.constant Γ.2.1.1.cls i v ∈ tb) (k : G Γ X σ L (.int v :: st) (pc + 3)) : G Γ X σ L st pc := by
  obtain ⟨⟨p, l, e, R⟩, ⟨s, m, args, below⟩, ⟨meth, c, Q⟩, ⟨dC, dI, cI, cB⟩, ⟨ad, A, cells, slots⟩⟩ := X
  intro ok H locs ls hP hS hl
  have hk := k ok H locs ls hP hS hl
  obtain ⟨hx, hb, hm, hown, hts, -⟩ := ok
  exact lv_ldcw hx hb hown (hts _ hc) hd hk
theorem g_ldc2 {i : Nat} {v : Int64} (hd : decode Γ.2.1.2.1 pc = .ok (.ldc2_w i, 3)) (hc : Cond.constantLong Γ.2.1.1.cls i v ∈ tb) (k : G Γ X σ L (.long v :: st) (pc + 3)) : G Γ X σ L st pc := by
  obtain ⟨⟨p, l, e, R⟩, ⟨s, m, args, below⟩, ⟨meth, c, Q⟩, ⟨dC, dI, cI, cB⟩, ⟨ad, A, cells, slots⟩⟩ := X
  intro ok H locs ls hP hS hl
  have hk := k ok H locs ls hP hS hl
  obtain ⟨hx, hb, hm, hown, hts, -⟩ := ok
  exact lv_ldc2 hx hb hown (hts _ hc) hd hk
end GL
