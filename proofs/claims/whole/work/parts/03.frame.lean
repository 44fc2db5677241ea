/-! THE FRAME: a store of numbered cells (objects whose references are fixed, arrays of numbers) and a judgement G over it, one row an instruction -/
abbrev Store : Type := Nat → Nat → Int32
abbrev Shape : Type := (Bool × Nat) ⊕ (Nat × List (Option Nat))
abbrev Lay : Type := List Shape
/-- a store with one place written -/
def s_up (σ : Store) (k j : Nat) (v : Int32) : Store := fun a => if a = k then upd (σ a) j v else σ a
theorem s_up_k (σ : Store) (k j : Nat) (v : Int32) : s_up σ k j v k = upd (σ k) j v := by simp [s_up]
theorem s_up_n (σ : Store) {a k : Nat} (j : Nat) (v : Int32) (h : a ≠ k) : s_up σ k j v a = σ a := by simp [s_up, h]
/-- a store with one cell replaced -/
def s_row (σ : Store) (k : Nat) (f : Nat → Int32) : Store := fun a => if a = k then f else σ a
theorem s_row_k (σ : Store) (k : Nat) (f : Nat → Int32) : s_row σ k f k = f := by simp [s_row]
theorem s_row_n (σ : Store) {a k : Nat} (f : Nat → Int32) (h : a ≠ k) : s_row σ k f a = σ a := by simp [s_row, h]
/-- a reference of the store is a cell's number; its address is ad of it -/
def cv (ad : Nat → Nat) : Value → Value
  | .ref k => .ref (ad k)
  | v => v
theorem cv_cat (ad : Nat → Nat) (v : Value) : (cv ad v).category = v.category := by cases v <;> rfl
def fv (ad : Nat → Nat) (v : Nat → Int32) : Nat → List (Option Nat) → List Value
  | _, [] => []
  | j, none :: r => .int (v j) :: fv ad v (j + 1) r
  | j, some k :: r => .ref (ad k) :: fv ad v (j + 1) r
def fo (ad : Nat → Nat) (v : Nat → Int32) (j : Nat) : Option Nat → Value
  | none => .int (v j)
  | some k => .ref (ad k)
theorem fv_get (ad : Nat → Nat) (v : Nat → Int32) : ∀ (fs : List (Option Nat)) (j i : Nat), (fv ad v j fs)[i]? = fs[i]?.map (fo ad v (j + i)) := by
  intro fs
  induction fs with
  | nil => intro j i; simp [fv]
  | cons f r ih =>
    intro j i
    cases i with
    | zero => cases f <;> simp [fv, fo]
    | succ i =>
      have e : j + (i + 1) = (j + 1) + i := by omega
      cases f <;> simp [fv, ih, e]
theorem fv_len (ad : Nat → Nat) (v : Nat → Int32) : ∀ (fs : List (Option Nat)) (j : Nat), (fv ad v j fs).length = fs.length := by
  intro fs
  induction fs with
  | nil => intro j; rfl
  | cons f r ih => intro j; cases f <;> simp [fv, ih]
theorem fv_set (ad : Nat → Nat) (v : Nat → Int32) (fs : List (Option Nat)) {i : Nat} (x : Int32) (h : fs[i]? = some none) : (fv ad v 0 fs).set i (.int x) = fv ad (upd v i x) 0 fs := by
  apply List.ext_getElem?
  intro k
  rw [List.getElem?_set, fv_get, fv_len, fv_get]
  by_cases hk : i = k
  · subst hk
    have hl : i < fs.length := (List.getElem?_eq_some_iff.mp h).1
    have h3 : fs[i] = none := (List.getElem?_eq_some_iff.mp h).2
    simp [hl, h3, fo, upd]
  · rw [if_neg hk]
    cases hf : fs[k]? with
    | none => rfl
    | some o => cases o <;> simp [fo, upd, Ne.symm hk]
def ce (cI cB : ClassId) (ad : Nat → Nat) (v : Nat → Int32) : Shape → va_E
  | .inl (b, n) => .inl (if b then cB else cI, n, .inl v)
  | .inr (ci, fs) => .inr (ci, fv ad v 0 fs)
def wr (cI cB : ClassId) (ad : Nat → Nat) (σ : Store) : Nat → Lay → va_W
  | _, [] => []
  | k, sh :: r => (ad k, ce cI cB ad (σ k) sh) :: wr cI cB ad σ (k + 1) r
theorem wr_get (cI cB : ClassId) (ad : Nat → Nat) (σ : Store) : ∀ (Λ : Lay) (k i : Nat), (wr cI cB ad σ k Λ)[i]? = Λ[i]?.map (fun sh => (ad (k + i), ce cI cB ad (σ (k + i)) sh)) := by
  intro Λ
  induction Λ with
  | nil => intro k i; simp [wr]
  | cons f r ih =>
    intro k i
    cases i with
    | zero => simp [wr]
    | succ i =>
      have e : k + (i + 1) = (k + 1) + i := by omega
      simp [wr, ih, e]
theorem wr_at {cI cB : ClassId} {ad : Nat → Nat} {σ : Store} {Λ : Lay} {i : Nat} {sh : Shape} (h : Λ[i]? = some sh) : (wr cI cB ad σ 0 Λ)[i]? = some (ad i, ce cI cB ad (σ i) sh) := by
  rw [wr_get, h]; simp
theorem wr_len (cI cB : ClassId) (ad : Nat → Nat) (σ : Store) : ∀ (Λ : Lay) (k : Nat), (wr cI cB ad σ k Λ).length = Λ.length := by
  intro Λ
  induction Λ with
  | nil => intro k; rfl
  | cons f r ih => intro k; simp [wr, ih]
theorem wr_set {cI cB : ClassId} {ad : Nat → Nat} {σ : Store} {Λ : Lay} {i : Nat} {sh : Shape} (f : Nat → Int32) (h : Λ[i]? = some sh) : (wr cI cB ad σ 0 Λ).set i (ad i, ce cI cB ad f sh) = wr cI cB ad (s_row σ i f) 0 Λ := by
  apply List.ext_getElem?
  intro k
  rw [List.getElem?_set, wr_get, wr_len, wr_get]
  by_cases hk : i = k
  · subst hk
    have hl : i < Λ.length := (List.getElem?_eq_some_iff.mp h).1
    have h3 : Λ[i] = sh := (List.getElem?_eq_some_iff.mp h).2
    simp [hl, h3, s_row]
  · rw [if_neg hk]
    cases hf : Λ[k]? with
    | none => rfl
    | some o => simp [s_row, Ne.symm hk]
theorem s_row_up (σ : Store) (k j : Nat) (v : Int32) : s_row σ k (upd (σ k) j v) = s_up σ k j v := by
  funext a
  by_cases h : a = k
  · subst h; simp [s_row, s_up]
  · simp [s_row, s_up, h]
/-- the cells' addresses are apart; which they are -/
def Ap (Λ : Lay) (ad : Nat → Nat) : Prop := ∀ i j, i < Λ.length → j < Λ.length → ad i = ad j → i = j
def Aw (Λ : Lay) (ad : Nat → Nat) : Nat → Prop := fun q => ∃ k, k < Λ.length ∧ q = ad k
theorem wr_D {cI cB : ClassId} {ad : Nat → Nat} {σ : Store} {Λ : Lay} {A : Nat → Prop} (h : Ap Λ ad) (hA : ∀ k, k < Λ.length → A (ad k)) : va_D A (wr cI cB ad σ 0 Λ) := by
  have key : ∀ (k : Nat) (q : Nat × va_E), (wr cI cB ad σ 0 Λ)[k]? = some q → k < Λ.length ∧ q.1 = ad k := by
    intro k q hq
    rw [wr_get] at hq
    cases hf : Λ[k]? with
    | none => rw [hf] at hq; cases hq
    | some o =>
      rw [hf] at hq
      have := Option.some.inj hq
      refine ⟨(List.getElem?_eq_some_iff.mp hf).1, ?_⟩
      rw [← this]; simp
  refine ⟨fun i j p q hp hq e => ?_, fun k q hq => ?_⟩
  · obtain ⟨a1, a2⟩ := key i p hp
    obtain ⟨b1, b2⟩ := key j q hq
    exact h i j a1 b1 (by rw [← a2, ← b2]; exact e)
  · obtain ⟨a1, a2⟩ := key k q hq
    rw [a2]; exact hA k a1
-- what nobody writes: static arrays, String constants
def roC : Nat → String × String := fun j => match j with
  | 0 => ("LateSeekers", "LAW_AT_FIRST")
  | 1 => ("LateSeekers", "LAW_MOST")
  | 2 => ("LateSeekers", "KIND_ABOVE")
  | _ => ("LateSeekers$Actor", "BODIES")
def roV : Nat → List Int32 := fun j => match j with
  | 0 => [60, 2, 1, 20]
  | 1 => [99, 9, 9, 99]
  | 2 => [-1, 0, 0, 1, 2, 0]
  | _ => [10, 11, 12, 13, 10, 20, 12, 13, 30, 11, 12, 31, 51, 20, 50, 13, 40, 41, 12, 31, 10, 11, 61, 60]
/-- the String constants: place in the pool, text -/
def strK : List (Nat × String) := [(64, "at"), (74, "age"), (80, "wit"), (82, "seeks"), (98, "cover"), (100, "is"), (120, "child"), (122, "widower"), (124, "keeper"), (126, "grandson"), (128, "scholar"), (130, "lady"), (132, "out"), (134, "dark"), (136, "lamp"), (138, "peep")]
def strB : List (List Int32) := [[97, 116], [97, 103, 101], [119, 105, 116], [115, 101, 101, 107, 115], [99, 111, 118, 101, 114], [105, 115], [99, 104, 105, 108, 100], [119, 105, 100, 111, 119, 101, 114], [107, 101, 101, 112, 101, 114], [103, 114, 97, 110, 100, 115, 111, 110], [115, 99, 104, 111, 108, 97, 114], [108, 97, 100, 121], [111, 117, 116], [100, 97, 114, 107], [108, 97, 109, 112], [112, 101, 101, 112]]
def strL : List Nat := [2, 3, 3, 5, 5, 2, 5, 7, 6, 8, 7, 4, 3, 4, 4, 4]
def RO (ad : Nat → Nat) (A : Nat → Prop) (U : State) : Prop :=
  (∀ j, j < 4 → va_Z (roC j).1 (roC j).2 "[I" (.ref (ad (900 + j))) A U U.heap ∧ va_T .int (ad (900 + j)) (roV j).length (fun i => .int ((roV j).getD i 0)) A U U.heap) ∧
  vk_S 16 strL strB (fun i => ad (1000 + i)) (fun i => ad (1100 + i)) A U U.heap ∧
  (∀ i, i < 16 → vk_R "LateSeekers$TapeReader" (strK.getD i (0, "")).1 (strK.getD i (0, "")).2 (ad (1000 + i)) U) ∧
  va_Z "java/lang/String" "COMPACT_STRINGS" "Z" (.int 1) A U U.heap ∧
  (va_Z "jdk/internal/util/Preconditions" "SIOOBE_FORMATTER" "Ljava/util/function/BiFunction;" .null A U U.heap ∨ va_Z "jdk/internal/util/Preconditions" "SIOOBE_FORMATTER" "Ljava/util/function/BiFunction;" (.ref (ad 1200)) A U U.heap) ∧
  va_Nw (.fieldLinkNest "LateSeekers$Park" 43 "LateSeekers" "LAW_AT_FIRST" "[I" "LateSeekers") U ∧ va_Nw (.fieldLinkNest "LateSeekers$TapeReader" 91 "LateSeekers" "LAW_MOST" "[I" "LateSeekers") U
/-- at a later state of the same run -/
theorem RO.later {ad : Nat → Nat} {A B : Nat → Prop} {s U : State} {H : Heap} {locs : List Loc} (h : RO ad A s) (hS : va_S A s.heap H locs) (hU : U.heap = H) (hW : s.WarmedH U.vm) (hB : ∀ q, B q → A q) : RO ad B U := by
  obtain ⟨h1, h2, h3, h4, h5, h6, h7⟩ := h
  have hv := hW.alike
  subst hU
  refine ⟨fun j hj => ⟨((va_Z.moved hv (h1 j hj).1).kept hS.2.1).narrow hB, ((va_T.moved hv (h1 j hj).2).kept hS.2.1).narrow hB⟩, ((vk_S.moved hv h2).kept hS.2.1).narrow hB, fun i hi => (h3 i hi).warm hW, ((va_Z.moved hv h4).kept hS.2.1).narrow hB, ?_, va_Nw.warmF hW h6, va_Nw.warmF hW h7⟩
  rcases h5 with h | h
  · exact Or.inl (((va_Z.moved hv h).kept hS.2.1).narrow hB)
  · exact Or.inr (((va_Z.moved hv h).kept hS.2.1).narrow hB)
theorem RO.calling {ad : Nat → Nat} {A : Nat → Prop} {U : State} (g : JFrame) (mk : MethodId) (a : Array Value) (h : RO ad A U) : RO ad A (U.calling g mk a) := by
  obtain ⟨h1, h2, h3, h4, h5, h6, h7⟩ := h
  have hv : U.vm.Alike (U.calling g mk a).vm := Vm.Alike.refl U.vm
  refine ⟨fun j hj => ⟨va_Z.moved hv (h1 j hj).1, va_T.moved hv (h1 j hj).2⟩, vk_S.moved hv h2, fun i hi => (h3 i hi).same rfl, va_Z.moved hv h4, ?_, va_Nw.same rfl rfl h6, va_Nw.same rfl rfl h7⟩
  rcases h5 with h | h
  · exact Or.inl (va_Z.moved hv h)
  · exact Or.inr (va_Z.moved hv h)
theorem RO.re {ad ad' : Nat → Nat} {A : Nat → Prop} {U : State} (h : RO ad A U) (he : ∀ k, 900 ≤ k → ad' k = ad k) : RO ad' A U := by
  obtain ⟨h1, h2, h3, h4, h5, h6, h7⟩ := h
  refine ⟨fun j hj => ?_, ⟨fun i hi => ?_, fun i j hi hj e => ?_⟩, fun i hi => ?_, h4, ?_, h6, h7⟩
  · rw [he (900 + j) (by omega)]; exact h1 j hj
  · have := h2.1 i hi
    show va_O _ (ad' (1000 + i)) A U U.heap ∧ va_OF _ _ _ _ (ad' (1000 + i)) A U U.heap ∧ va_OF _ _ _ (.ref (ad' (1100 + i))) (ad' (1000 + i)) A U U.heap ∧ va_T _ (ad' (1100 + i)) _ _ A U U.heap
    rw [he (1000 + i) (by omega), he (1100 + i) (by omega)]
    exact this
  · have e1 : ad' (1000 + i) = ad' (1000 + j) := e
    rw [he (1000 + i) (by omega), he (1000 + j) (by omega)] at e1
    exact h2.2 i j hi hj e1
  · rw [he (1000 + i) (by omega)]; exact h3 i hi
  · rw [he 1200 (by omega)]; exact h5
-- locals by their places
def clr (L : List (Option Value)) : Nat → List (Option Value)
  | 0 => L
  | j + 1 => match L[j]? with
    | some (some (.long _)) => L.set j none
    | some (some (.double _)) => L.set j none
    | _ => L
def st1 (L : List (Option Value)) (i : Nat) (v : Value) : List (Option Value) := (clr L i).set i (some v)
def st2 (L : List (Option Value)) (i : Nat) (v : Value) : List (Option Value) := ((clr L i).set i (some v)).set (i + 1) none
def ent (as : List Value) (n : Nat) : List (Option Value) := let l := as.flatMap (fun v => match v with
    | .long z => [some (.long z), none]
    | .double z => [some (.double z), none]
    | w => [some w]); l ++ List.replicate (n - l.length) none
def lh (ls : Array Slot) (nL : Nat) (ad : Nat → Nat) (L : List (Option Value)) : Prop := ls.size = nL ∧ lv_wf ls ∧ ∀ (i : Nat) (v : Value), L[i]? = some (some v) → ls[i]? = some (.val (cv ad v))
def prs (ad : Nat → Nat) : Nat → List (Option Value) → List (Nat × Value)
  | _, [] => []
  | i, none :: r => prs ad (i + 1) r
  | i, some v :: r => (i, cv ad v) :: prs ad (i + 1) r
theorem prs_mem (ad : Nat → Nat) : ∀ (L : List (Option Value)) (i : Nat) (q : Nat × Value), q ∈ prs ad i L ↔ ∃ (k : Nat) (v : Value), L[k]? = some (some v) ∧ q = (i + k, cv ad v) := by
  intro L
  induction L with
  | nil => intro i q; simp [prs]
  | cons f r ih =>
    intro i q
    have aux : (∃ (k : Nat) (v : Value), r[k]? = some (some v) ∧ q = (i + 1 + k, cv ad v)) ↔ ∃ (k : Nat) (v : Value), (f :: r)[k + 1]? = some (some v) ∧ q = (i + (k + 1), cv ad v) := by
      constructor
      · rintro ⟨k, v, h1, h2⟩; exact ⟨k, v, by simpa using h1, by rw [h2, show i + (k + 1) = i + 1 + k by omega]⟩
      · rintro ⟨k, v, h1, h2⟩; exact ⟨k, v, by simpa using h1, by rw [h2, show i + (k + 1) = i + 1 + k by omega]⟩
    cases f with
    | none =>
      rw [prs, ih, aux]
      constructor
      · rintro ⟨k, v, h1, h2⟩; exact ⟨k + 1, v, h1, h2⟩
      · rintro ⟨k, v, h1, h2⟩
        cases k with
        | zero => simp at h1
        | succ k => exact ⟨k, v, h1, h2⟩
    | some w =>
      rw [prs, List.mem_cons, ih, aux]
      constructor
      · rintro (h | ⟨k, v, h1, h2⟩)
        · exact ⟨0, w, rfl, by rw [h]; simp⟩
        · exact ⟨k + 1, v, h1, h2⟩
      · rintro ⟨k, v, h1, h2⟩
        cases k with
        | zero =>
          have : w = v := by simpa using h1
          subst this
          exact Or.inl (by rw [h2]; simp)
        | succ k => exact Or.inr ⟨k, v, h1, h2⟩
theorem lh_pairs {ls : Array Slot} {nL : Nat} {ad : Nat → Nat} {L : List (Option Value)} (h : lh ls nL ad L) : lv_has ls nL (prs ad 0 L) := by
  refine ⟨h.1, h.2.1, fun q hq => ?_⟩
  obtain ⟨k, v, h1, h2⟩ := (prs_mem ad L 0 q).mp hq
  rw [h2]
  simpa using h.2.2 k v h1
theorem lh_at {ls : Array Slot} {nL : Nat} {ad : Nat → Nat} {L : List (Option Value)} (h : lh ls nL ad L) {i : Nat} {v : Value} (hi : L[i]? = some (some v)) : ls[i]? = some (.val (cv ad v)) := h.2.2 i v hi
theorem set_some {L : List (Option Value)} {j i : Nat} {o : Option Value} {w : Value} (h : (L.set i o)[j]? = some (some w)) : (j = i ∧ o = some w) ∨ (j ≠ i ∧ L[j]? = some (some w)) := by
  rw [List.getElem?_set] at h
  by_cases e : i = j
  · subst e
    rw [if_pos rfl] at h
    by_cases hl : i < L.length
    · rw [if_pos hl] at h
      exact Or.inl ⟨rfl, Option.some.inj h⟩
    · rw [if_neg hl] at h; cases h
  · rw [if_neg e] at h
    exact Or.inr ⟨fun q => e q.symm, h⟩
theorem clr_some {L : List (Option Value)} {i j : Nat} {w : Value} (h : (clr L i)[j]? = some (some w)) : L[j]? = some (some w) ∧ ¬ (j + 1 = i ∧ w.category = 2) := by
  cases i with
  | zero => exact ⟨h, fun q => by omega⟩
  | succ i =>
    have base : ∀ v : Value, L[i]? = some (some v) → v.category = 2 → clr L (i + 1) = L.set i none := by
      intro v hv hc
      show (match L[i]? with
        | some (some (.long _)) => L.set i none
        | some (some (.double _)) => L.set i none
        | _ => L) = _
      rw [hv]
      cases v <;> simp [Value.category] at hc <;> rfl
    by_cases hb : ∃ v : Value, L[i]? = some (some v) ∧ v.category = 2
    · obtain ⟨v, hv, hc⟩ := hb
      rw [base v hv hc] at h
      rcases set_some h with ⟨_, h2⟩ | ⟨h1, h2⟩
      · cases h2
      · exact ⟨h2, fun q => h1 (by omega)⟩
    · have e : clr L (i + 1) = L := by
        show (match L[i]? with
          | some (some (.long _)) => L.set i none
          | some (some (.double _)) => L.set i none
          | _ => L) = _
        split
        · rename_i z hz; exact absurd ⟨_, hz, rfl⟩ hb
        · rename_i z hz; exact absurd ⟨_, hz, rfl⟩ hb
        · rfl
      rw [e] at h
      refine ⟨h, fun q => hb ⟨w, ?_, q.2⟩⟩
      have : j = i := by omega
      rw [← this]; exact h
theorem lh_st1 {ls' : Array Slot} {nL i : Nat} {ad : Nat → Nat} {L L' : List (Option Value)} {v : Value} (h' : lv_has ls' nL ((i, cv ad v) :: (prs ad 0 L).filter (fun q => !(q.1 == i) && !(q.1 + 1 == i && q.2.category == 2)))) (hL : st1 L i v = L') : lh ls' nL ad L' := by
  subst hL
  refine ⟨h'.1, h'.2.1, fun j w hj => ?_⟩
  rcases set_some hj with ⟨h1, h2⟩ | ⟨h1, h2⟩
  · cases h2; subst h1
    exact h'.2.2 _ List.mem_cons_self
  · obtain ⟨h3, h4⟩ := clr_some h2
    refine h'.2.2 (j, cv ad w) (List.mem_cons_of_mem _ (List.mem_filter.mpr ⟨(prs_mem ad L 0 _).mpr ⟨j, w, h3, by simp⟩, ?_⟩))
    rw [cv_cat]
    by_cases e : j + 1 = i
    · have : ¬ w.category = 2 := fun q => h4 ⟨e, q⟩
      simp [h1, this]
    · simp [h1, e]
theorem lh_st2 {ls' : Array Slot} {nL i : Nat} {ad : Nat → Nat} {L L' : List (Option Value)} {v : Value} (h' : lv_has ls' nL ((i, cv ad v) :: (prs ad 0 L).filter (fun q => !(q.1 == i) && (!(q.1 == i + 1) && !(q.1 + 1 == i && q.2.category == 2))))) (hL : st2 L i v = L') : lh ls' nL ad L' := by
  subst hL
  refine ⟨h'.1, h'.2.1, fun j w hj => ?_⟩
  rcases set_some hj with ⟨_, h2⟩ | ⟨h0, hj⟩
  · cases h2
  rcases set_some hj with ⟨h1, h2⟩ | ⟨h1, h2⟩
  · cases h2; subst h1
    exact h'.2.2 _ List.mem_cons_self
  · obtain ⟨h3, h4⟩ := clr_some h2
    refine h'.2.2 (j, cv ad w) (List.mem_cons_of_mem _ (List.mem_filter.mpr ⟨(prs_mem ad L 0 _).mpr ⟨j, w, h3, by simp⟩, ?_⟩))
    rw [cv_cat]
    by_cases e : j + 1 = i
    · have : ¬ w.category = 2 := fun q => h4 ⟨e, q⟩
      simp [h1, h0, this]
    · simp [h1, h0, e]
/-- fewer listed locals -/
def leL : List (Option Value) → List (Option Value) → Prop
  | [], _ => True
  | none :: a, [] => leL a []
  | none :: a, _ :: b => leL a b
  | some _ :: _, [] => False
  | some v :: a, w :: b => w = some v ∧ leL a b
theorem leL_at : ∀ (L M : List (Option Value)), leL L M → ∀ (i : Nat) (v : Value), L[i]? = some (some v) → M[i]? = some (some v) := by
  intro L
  induction L with
  | nil => intro M _ i v h; simp at h
  | cons f r ih =>
    intro M h i v hv
    cases f with
    | none =>
      cases i with
      | zero => simp at hv
      | succ i =>
        cases M with
        | nil => have := ih [] h i v (by simpa using hv); simp at this
        | cons w b => have := ih b h i v (by simpa using hv); simpa using this
    | some u =>
      cases M with
      | nil => exact h.elim
      | cons w b =>
        obtain ⟨h1, h2⟩ := h
        cases i with
        | zero => simp at hv; subst hv; simp [h1]
        | succ i => have := ih b h2 i v (by simpa using hv); simpa using this
theorem lh_sub {ls : Array Slot} {nL : Nat} {ad : Nat → Nat} {L M : List (Option Value)} (h : lh ls nL ad M) (hs : leL L M) : lh ls nL ad L := ⟨h.1, h.2.1, fun i v hv => h.2.2 i v (leL_at L M hs i v hv)⟩
theorem ent_args (ad : Nat → Nat) : ∀ (as : List Value) (i : Nat), ∀ (k : Nat) (v : Value), (as.flatMap (fun v => match v with
    | .long z => [some (.long z), none]
    | .double z => [some (.double z), none]
    | w => [some w]))[k]? = some (some v) → (i + k, cv ad v) ∈ lv_args i (as.map (cv ad)) := by
  intro as
  induction as with
  | nil => intro i k v h; simp at h
  | cons a r ih =>
    intro i k v h
    have one : ∀ (w : Value), w.category = 1 → (some w :: r.flatMap (fun v => match v with
        | .long z => [some (.long z), none]
        | .double z => [some (.double z), none]
        | w => [some w]))[k]? = some (some v) → (i + k, cv ad v) ∈ lv_args i (cv ad w :: r.map (cv ad)) := by
      intro w hw h
      have hc : ¬ (cv ad w).category = 2 := by rw [cv_cat, hw]; decide
      cases k with
      | zero =>
        have : w = v := by simpa using h
        subst this
        exact List.mem_cons_self
      | succ k =>
        have := ih (i + 1) k v (by simpa using h)
        refine List.mem_cons_of_mem _ ?_
        rw [if_neg hc, show i + (k + 1) = i + 1 + k by omega]
        exact this
    have two : ∀ (w : Value), w.category = 2 → (some w :: none :: r.flatMap (fun v => match v with
        | .long z => [some (.long z), none]
        | .double z => [some (.double z), none]
        | w => [some w]))[k]? = some (some v) → (i + k, cv ad v) ∈ lv_args i (cv ad w :: r.map (cv ad)) := by
      intro w hw h
      have hc : (cv ad w).category = 2 := by rw [cv_cat, hw]
      match k, h with
      | 0, h =>
        have : w = v := by simpa using h
        subst this
        exact List.mem_cons_self
      | 1, h => simp at h
      | k + 2, h =>
        have := ih (i + 2) k v (by simpa using h)
        refine List.mem_cons_of_mem _ ?_
        rw [if_pos hc, show i + (k + 2) = i + 2 + k by omega]
        exact this
    cases a with
    | long z => exact two _ rfl h
    | double z => exact two _ rfl h
    | int z => exact one _ rfl h
    | float z => exact one _ rfl h
    | null => exact one _ rfl h
    | ref z => exact one _ rfl h
    | retAddr z => exact one _ rfl h
theorem lh_ent {ls : Array Slot} {n : Nat} {ad : Nat → Nat} {as : List Value} (h : lv_has ls n (lv_args 0 (as.map (cv ad)))) : lh ls n ad (ent as n) := by
  refine ⟨h.1, h.2.1, fun i v hv => ?_⟩
  have hm : (0 + i, cv ad v) ∈ lv_args 0 (as.map (cv ad)) := by
    apply ent_args
    unfold ent at hv
    rw [List.getElem?_append] at hv
    split at hv
    · exact hv
    · rw [List.getElem?_replicate] at hv
      split at hv <;> simp at hv
  have := h.2.2 _ hm
  simpa using this
